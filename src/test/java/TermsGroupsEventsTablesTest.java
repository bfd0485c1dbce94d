/** The section Terms, the paragraphs on groups, event frames and tables, sentence by sentence. */
public final class TermsGroupsEventsTablesTest {
    private static final int NONE = HeaderSchedule.NONE;

    /** Frames 0 .. 2 of the master, 3 .. 5 and 6, 7 of the slaves 1 .. 3 and 1, 2, of 2 bytes, with a signal each. */
    private static HeaderSchedule eightFrames() {
        HeaderSchedule x = new HeaderSchedule();
        int[] publishers = {0, 0, 0, 1, 2, 3, 1, 2};
        for (int i = 0; i < 8; i++) {
            x.frame(10 + i, publishers[i], 2, false);
            x.signal(i, 8, 8, i);
        }
        return x;
    }

    private static void groups(Check check) {
        HeaderSchedule x = eightFrames();
        check.none("one frame", x.sporadic(0, NONE, NONE));
        check.none("a slave's", x.sporadic(0, 1, 3));
        check.due("three frames", x.sporadic(0, 1, 2), 0);
        check.due("two frames", x.sporadic(0, 1, NONE), 1);
        check.none("no third group", x.sporadic(1, 2, NONE));
    }

    private static void theFirstGoesBefore(Check check) {
        HeaderSchedule x = eightFrames();
        x.sporadic(1, 2, 0);
        x.entry(0, 1, 0, 1);
        x.start(0);
        x.write(0, 1);
        check.ticks(x, 1);
        check.due("the last one, when it alone is pending", x.bus(0), Scenes.protect(10));
        x.write(0, 1);
        x.write(2, 1);
        check.ticks(x, 1);
        check.due("the second before the last", x.bus(0), Scenes.protect(12));
        x.write(1, 1);
        check.ticks(x, 1);
        check.due("the first before the last, though written later", x.bus(0), Scenes.protect(11));
        x.write(1, 1);
        check.ticks(x, 1);
        check.due("the first, again and again", x.bus(0), Scenes.protect(11));
        check.yes("the last waits", x.pending(0));
        check.ticks(x, 1);
        check.due("then the last", x.bus(0), Scenes.protect(10));
        check.ticks(x, 2);
    }

    private static void eventFrames(Check check) {
        HeaderSchedule x = eightFrames();
        check.none("one associated frame", x.event(20, 3, NONE, NONE, 0));
        check.none("not an identifier of its own", x.event(13, 3, 4, 5, 0));
        check.none("no such table", x.event(20, 3, 4, 5, 3));
        check.due("three associated frames", x.event(20, 3, 4, 5, 0), 0);
        check.due("two associated frames", x.event(21, 6, 7, NONE, 0), 1);
        HeaderSchedule y = new HeaderSchedule();
        for (int i = 0; i < 6; i++) {
            y.frame(i, 1 + i % 2, 1, true);
        }
        check.due("first", y.event(20, 0, 1, NONE, 0), 0);
        check.due("second", y.event(21, 2, 3, NONE, 1), 1);
        check.none("no third", y.event(22, 4, 5, NONE, 2));
    }

    private static void associatedFrames(Check check) {
        HeaderSchedule x = new HeaderSchedule();
        x.frame(1, 1, 2, false);
        x.frame(2, 2, 2, false);
        x.frame(3, 1, 2, false);
        x.frame(4, 3, 1, false);
        x.frame(5, 3, 3, false);
        x.frame(6, 3, 2, true);
        x.frame(7, 3, 2, false);
        check.none("not different", x.event(20, 0, 0, NONE, 0));
        check.none("not of different slaves", x.event(20, 0, 2, NONE, 0));
        check.none("one byte shorter", x.event(20, 0, 1, 3, 0));
        check.none("one byte longer", x.event(20, 0, 1, 4, 0));
        check.none("the other checksum", x.event(20, 0, 1, 5, 0));
        check.due("all as said", x.event(20, 0, 1, 6, 0), 0);
    }

    private static void oneEventFrameAtMost(Check check) {
        for (int again = 3; again <= 5; again++) {
            HeaderSchedule x = eightFrames();
            x.event(20, 3, 4, 5, 0);
            check.none("frame " + again + " as a", x.event(21, again, again == 4 ? 6 : 7, NONE, 0));
            check.none("frame " + again + " as b", x.event(21, again == 4 ? 6 : 7, again, NONE, 0));
            check.due("others", x.event(21, 6, 7, NONE, 0), 1);
        }
    }

    /** Whatever is written, and in its own slot as in the event frame's. */
    private static void byteZero(Check check) {
        HeaderSchedule x = eightFrames();
        check.due("event frame", x.event(20, 3, 4, 5, 1), 0);
        for (int bit = 0; bit < 8; bit++) {
            check.none("a signal with bit " + bit, x.signal(3, bit, 1, 0));
        }
        for (int i = 3; i <= 5; i++) {
            x.entry(1, 0, i, 1);
        }
        x.entry(0, 2, 0, 1);
        x.start(1);
        for (int i = 3; i <= 5; i++) {
            x.write(i, 0);
            check.ticks(x, 1);
            check.due("header of frame " + i, x.bus(0), Scenes.protect(10 + i));
            check.due("byte 0 of frame " + i, x.bus(1), Scenes.protect(10 + i));
        }
        x.request(0);
        for (int i = 3; i <= 5; i++) {
            x.write(i, 255);
            check.ticks(x, 1);
            check.due("header of the event frame", x.bus(0), Scenes.protect(20));
            check.due("byte 0 of frame " + i, x.bus(1), Scenes.protect(10 + i));
        }
        check.due("byte 0 before it was associated, and when not", notAssociatedByteZero(), 255);
    }

    private static int notAssociatedByteZero() {
        HeaderSchedule x = eightFrames();
        x.event(20, 3, 4, NONE, 1);
        x.entry(1, 0, 3, 1);
        x.entry(1, 0, 4, 1);
        x.entry(0, 0, 5, 1);
        x.start(0);
        x.tick();
        return x.bus(1);
    }

    private static void identifiersDiffer(Check check) {
        HeaderSchedule x = eightFrames();
        check.none("an event frame with a frame's", x.event(17, 3, 4, 5, 0));
        check.none("with an associated frame's own", x.event(13, 3, 4, 5, 0));
        check.due("with its own", x.event(18, 3, 4, 5, 0), 0);
        check.none("with the other event frame's", x.event(18, 6, 7, NONE, 0));
        check.due("with its own", x.event(19, 6, 7, NONE, 0), 1);
        HeaderSchedule y = new HeaderSchedule();
        y.frame(1, 1, 1, false);
        check.none("a frame with a frame's", y.frame(1, 2, 1, false));
        y.frame(2, 2, 1, false);
        y.event(3, 0, 1, NONE, 0);
        check.none("a frame with an event frame's", y.frame(3, 3, 1, false));
        check.due("with its own", y.frame(4, 3, 1, false), 2);
    }

    private static void tables(Check check) {
        HeaderSchedule x = eightFrames();
        for (int table = 0; table < 3; table++) {
            for (int i = 0; i < 8; i++) {
                check.yes("entry " + i + " of table " + table, x.entry(table, 0, (table + i) % 8, 1));
            }
            check.no("no ninth of table " + table, x.entry(table, 0, 0, 1));
        }
        check.no("no table 3", x.entry(3, 0, 0, 1));
        check.no("no table -1", x.entry(-1, 0, 0, 1));
        x.start(2);
        for (int table = 0; table < 3; table++) {
            x.request(table);
            for (int i = 0; i < 8; i++) {
                check.ticks(x, 1);
                check.due("position()", x.position(), 16 * table + i + 1);
                check.due("entry " + i, x.bus(0), Scenes.protect(10 + (table + i) % 8));
            }
        }
    }

    private static void entries(Check check) {
        for (int kind = 0; kind <= 2; kind++) {
            for (int delay : new int[] {1, 20}) {
                HeaderSchedule x = eightFrames();
                x.sporadic(0, 1, NONE);
                x.event(20, 3, 4, NONE, 1);
                x.entry(1, 0, 3, 1);
                x.entry(1, 0, 4, 1);
                check.yes("kind " + kind + ", delay " + delay, x.entry(0, kind, 0, delay));
                check.no("delay 0", x.entry(0, kind, 0, 0));
                check.no("delay 21", x.entry(0, kind, 0, 21));
                x.start(0);
                for (int round = 0; round < 2; round++) {
                    check.ticks(x, kind == 0 ? 1 : 2);
                    for (int i = 1; i < delay; i++) {
                        check.ticks(x, 0);
                    }
                }
            }
        }
    }

    public static void main(String[] args) {
        Section section = new Section("Terms");
        section.sentence("SPORADIC groups, at most 2: two or three frames of the master",
            TermsGroupsEventsTablesTest::groups);
        section.sentence("the first one goes before the others, and so on.",
            TermsGroupsEventsTablesTest::theFirstGoesBefore);
        section.sentence("EVENT frames, at most 2: an identifier of their own, two or three ASSOCIATED frames, and a"
            + " RESOLVING table.", TermsGroupsEventsTablesTest::eventFrames);
        section.sentence("Associated frames of one event frame are different, published by different slaves, of the"
            + " same length and with the same checksum", TermsGroupsEventsTablesTest::associatedFrames);
        section.sentence("a frame is associated with one event frame at most",
            TermsGroupsEventsTablesTest::oneEventFrameAtMost);
        section.sentence("no signal has one of its bits 0 .. 7: the byte 0 of an associated frame always is its own"
            + " protected identifier.", TermsGroupsEventsTablesTest::byteZero);
        section.sentence("The identifiers of all frames and event frames are different.",
            TermsGroupsEventsTablesTest::identifiersDiffer);
        section.sentence("TABLES 0, 1, 2: each has at most 8 ENTRIES", TermsGroupsEventsTablesTest::tables);
        section.sentence("an entry is a frame, a sporadic group or an event frame, with a delay of 1 to 20 ticks.",
            TermsGroupsEventsTablesTest::entries);
        section.end();
    }
}
