/** Promise 5, sentence by sentence. */
public final class Promise05EventTest {
    private static final int NONE = HeaderSchedule.NONE;

    /**
     * Frames 0, 1, 2 of the slaves 1, 2, 3, of 2 bytes and plain (headers 0xCA, 0x8B, 0x4C); of slave 3 too: 3 of 3
     * bytes, 4 enhanced, 6 as frame 2; 5 of the master; 7 of slave 1 as frame 0.
     */
    private static HeaderSchedule eightFrames() {
        HeaderSchedule x = new HeaderSchedule();
        x.frame(10, 1, 2, false);
        x.frame(11, 2, 2, false);
        x.frame(12, 3, 2, false);
        x.frame(13, 3, 3, false);
        x.frame(14, 3, 2, true);
        x.frame(15, 0, 2, false);
        x.frame(16, 3, 2, false);
        x.frame(17, 1, 2, false);
        return x;
    }

    /** What has to be possible in eightFrames() still, after a call that was refused. */
    private static void nothingWasDone(Check check, HeaderSchedule x) {
        check.no("no event frame", x.entry(0, 2, 0, 1));
        check.due("frame 7 is not associated", x.signal(7, 0, 8, 0), 0);
        check.due("20 is free", x.event(20, 0, 1, 2, 0), 0);
    }

    private static void refused(Check check, String call, int identifier, int[] frames, int table) {
        Twins twins = new Twins(check, Promise05EventTest::eightFrames);
        twins.none(call, x -> x.event(identifier, frames[0], frames[1], frames[2], table));
        HeaderSchedule x = eightFrames();
        check.none(call, x.event(identifier, frames[0], frames[1], frames[2], table));
        nothingWasDone(check, x);
    }

    private static void refused(Check check, String call, int a, int b, int c) {
        refused(check, call, 20, new int[] {a, b, c}, 0);
    }

    private static void ofThree(Check check) {
        HeaderSchedule x = eightFrames();
        check.due("event frame", x.event(3, 2, 0, 1, 0), 0);
        for (int i = 0; i < 3; i++) {
            x.signal(i, 8, 8, i);
            x.entry(0, 0, i, 1);
        }
        x.entry(1, 2, 0, 1);
        x.start(1);
        for (int i = 0; i < 3; i++) {
            x.write(i, 0x30 + i);
            check.ticks(x, 1);
            check.due("the event frame's header", x.bus(0), 0x03);
            check.due("byte 0", x.bus(1), Scenes.protect(10 + i));
            check.due("read(" + i + ")", x.read(i), 0x30 + i);
        }
    }

    private static void ofTwo(Check check) {
        HeaderSchedule x = eightFrames();
        check.due("event frame", x.event(3, 1, 2, NONE, 0), 0);
        for (int i = 0; i < 3; i++) {
            x.signal(i, 8, 8, i);
            x.entry(0, 0, i, 1);
        }
        x.entry(1, 2, 0, 1);
        x.start(1);
        x.write(0, 9);
        check.ticks(x, 2);
        check.yes("frame 0 is not associated", x.pending(0));
        x.write(2, 8);
        check.ticks(x, 1);
        check.due("byte 0", x.bus(1), 0x4C);
    }

    private static void resolvingTable(Check check) {
        for (int table = 0; table < 3; table++) {
            int other = (table + 1) % 3;
            HeaderSchedule x = eightFrames();
            x.signal(0, 8, 8, 0);
            x.signal(1, 8, 8, 1);
            check.due("resolved by table " + table, x.event(3, 0, 1, NONE, table), 0);
            x.entry(table, 0, 1, 1);
            x.entry(table, 0, 0, 1);
            x.entry(other, 2, 0, 1);
            check.yes("start(" + other + ")", x.start(other));
            x.write(0, 2);
            x.write(1, 3);
            check.ticks(x, 4, 1);
            check.due("position()", x.position(), 64 + 16 * table + 1);
            check.due("the first of that table", x.bus(0), 0x8B);
        }
    }

    private static void number(Check check) {
        HeaderSchedule x = eightFrames();
        check.due("the first", x.event(20, 0, 1, NONE, 0), 0);
        check.no("no event frame 1", x.entry(1, 2, 1, 1));
        check.due("the second, with the same resolving table", x.event(21, 7, 2, NONE, 0), 1);
        check.yes("entry of event frame 1", x.entry(1, 2, 1, 1));
        for (int f : new int[] {0, 1, 2, 7}) {
            x.entry(0, 0, f, 1);
        }
        check.yes("start(1)", x.start(1));
        check.ticks(x, 2);
        check.due("header of event frame 1", x.bus(0), 0x55);
    }

    private static void started(Check check) {
        HeaderSchedule x = Scenes.made();
        x.frame(30, 1, 2, true);
        x.frame(31, 2, 2, true);
        check.due("before start", x.event(20, 4, 5, NONE, 0), 1);
        Twins twins = new Twins(check, Promise05EventTest::startedWithTwoMore);
        twins.none("event(20, 4, 5, NONE, 0)", y -> y.event(20, 4, 5, NONE, 0));
    }

    private static HeaderSchedule startedWithTwoMore() {
        HeaderSchedule x = Scenes.made();
        x.frame(30, 1, 2, true);
        x.frame(31, 2, 2, true);
        x.signal(4, 8, 8, 1);
        x.entry(2, 0, 4, 1);
        x.start(2);
        return x;
    }

    private static HeaderSchedule twoEvents() {
        HeaderSchedule x = new HeaderSchedule();
        for (int i = 0; i < 6; i++) {
            x.frame(10 + i, 1 + i % 2, 2, false);
        }
        x.event(20, 0, 1, NONE, 1);
        x.event(21, 2, 3, NONE, 1);
        return x;
    }

    private static void twoAreThere(Check check) {
        HeaderSchedule x = twoEvents();
        check.yes("event frame 1 is there", x.entry(0, 2, 1, 1));
        check.none("the third", x.event(22, 4, 5, NONE, 1));
        check.no("no event frame 2", x.entry(0, 2, 2, 1));
        check.due("its identifier is free", x.frame(22, 0, 1, false), 6);
        check.due("its frames are not associated", x.signal(4, 0, 8, 0), 0);
        new Twins(check, Promise05EventTest::twoEvents).none("the third", y -> y.event(22, 4, 5, NONE, 1));
    }

    private static void identifierRange(Check check) {
        for (int identifier : new int[] {-1, 60, 63, 64, -59, Integer.MIN_VALUE, Integer.MAX_VALUE}) {
            refused(check, "event(" + identifier + ", ..)", identifier, new int[] {0, 1, 2}, 0);
        }
        check.due("the least", eightFrames().event(0, 0, 1, 2, 0), 0);
        check.due("the greatest", eightFrames().event(59, 0, 1, 2, 0), 0);
    }

    private static void borneByAFrame(Check check) {
        for (int identifier = 10; identifier <= 17; identifier++) {
            refused(check, "event(" + identifier + ", ..)", identifier, new int[] {0, 1, 2}, 0);
        }
        check.due("beside them", eightFrames().event(9, 0, 1, 2, 0), 0);
        check.due("beside them", eightFrames().event(18, 0, 1, 2, 0), 0);
    }

    private static HeaderSchedule oneEvent() {
        HeaderSchedule x = eightFrames();
        x.event(20, 0, 1, NONE, 0);
        return x;
    }

    private static void borneByAnEventFrame(Check check) {
        new Twins(check, Promise05EventTest::oneEvent).none("event(20, ..)", x -> x.event(20, 7, 2, NONE, 0));
        HeaderSchedule x = oneEvent();
        check.none("the first one's", x.event(20, 7, 2, NONE, 0));
        check.due("beside it", x.event(21, 7, 2, NONE, 0), 1);
    }

    private static void table(Check check) {
        for (int table : new int[] {-1, 3, 4, Integer.MIN_VALUE, Integer.MAX_VALUE}) {
            refused(check, "event with table " + table, 20, new int[] {0, 1, 2}, table);
        }
        check.due("the first table", eightFrames().event(20, 0, 1, 2, 0), 0);
        check.due("the last table", eightFrames().event(20, 0, 1, 2, 2), 0);
    }

    private static void doesNotExist(Check check) {
        for (int f : new int[] {8, 9, -2, Integer.MIN_VALUE, Integer.MAX_VALUE}) {
            refused(check, "a is " + f, f, 1, 2);
            refused(check, "b is " + f, 0, f, 2);
            refused(check, "c is " + f, 0, 1, f);
            refused(check, "b of two is " + f, 0, f, NONE);
        }
        refused(check, "a is NONE", NONE, 1, 2);
        refused(check, "b is NONE", 0, NONE, 2);
        refused(check, "b and c are NONE", 0, NONE, NONE);
        new Twins(check, Scenes::fresh).none("there is no frame", x -> x.event(20, 0, 1, NONE, 0));
        check.due("the last frame", eightFrames().event(20, 1, 7, NONE, 0), 0);
    }

    private static void associatedAlready(Check check) {
        Twins twins = new Twins(check, Promise05EventTest::oneEvent);
        twins.none("a is", x -> x.event(21, 1, 7, NONE, 0));
        twins.none("b is", x -> x.event(21, 7, 1, NONE, 0));
        twins.none("c is", x -> x.event(21, 7, 2, 1, 0));
        twins.none("both are", x -> x.event(21, 0, 1, NONE, 0));
        HeaderSchedule x = oneEvent();
        check.none("refused", x.event(21, 7, 2, 1, 0));
        check.due("frame 2 is not associated by that", x.event(21, 7, 2, NONE, 0), 1);
    }

    private static void ofTheMaster(Check check) {
        refused(check, "a is", 5, 1, 2);
        refused(check, "b is", 0, 5, 2);
        refused(check, "c is", 0, 1, 5);
        refused(check, "b of two is", 0, 5, NONE);
    }

    private static void ofTheSamePublisher(Check check) {
        refused(check, "a and b", 0, 7, 2);
        refused(check, "a and c", 0, 1, 7);
        refused(check, "b and c", 0, 2, 6);
        refused(check, "a and b of two", 2, 6, NONE);
        refused(check, "a and b the same frame", 0, 0, 2);
        refused(check, "a and c the same frame", 0, 1, 0);
        refused(check, "b and c the same frame", 0, 1, 1);
        refused(check, "the same frame twice", 1, 1, NONE);
    }

    private static void anotherLength(Check check) {
        refused(check, "a has", 3, 0, 1);
        refused(check, "b has", 0, 3, 1);
        refused(check, "c has", 0, 1, 3);
        refused(check, "b of two has", 0, 3, NONE);
        for (int length = 1; length <= 8; length++) {
            HeaderSchedule x = new HeaderSchedule();
            x.frame(10, 1, length, true);
            x.frame(11, 2, length, true);
            x.frame(12, 3, length == 8 ? 7 : length + 1, true);
            check.none("a third one of another length", x.event(20, 0, 1, 2, 0));
            check.due("two of " + length + " bytes", x.event(20, 0, 1, NONE, 0), 0);
        }
    }

    private static void theOtherChecksum(Check check) {
        refused(check, "a has", 4, 0, 1);
        refused(check, "b has", 0, 4, 1);
        refused(check, "c has", 0, 1, 4);
        refused(check, "b of two has", 0, 4, NONE);
        HeaderSchedule x = new HeaderSchedule();
        x.frame(10, 1, 2, true);
        x.frame(11, 2, 2, true);
        check.due("both are enhanced", x.event(20, 0, 1, NONE, 0), 0);
    }

    private static HeaderSchedule withSignal(int frame, int offset, int width) {
        HeaderSchedule x = eightFrames();
        x.signal(frame, offset, width, 0);
        return x;
    }

    private static void signalInByteZero(Check check) {
        for (int frame = 0; frame < 3; frame++) {
            for (int bit = 0; bit < 8; bit++) {
                check.none("bit " + bit + " of frame " + frame, withSignal(frame, bit, 1).event(20, 0, 1, 2, 0));
                check.none("bits " + bit + " .. 8", withSignal(frame, bit, 9 - bit).event(20, 0, 1, 2, 0));
            }
            check.due("bit 8 of frame " + frame, withSignal(frame, 8, 1).event(20, 0, 1, 2, 0), 0);
            check.due("bits 8 .. 15 of frame " + frame, withSignal(frame, 8, 8).event(20, 0, 1, 2, 0), 0);
        }
        check.due("of a frame that is not in it", withSignal(3, 0, 16).event(20, 0, 1, 2, 0), 0);
        Twins twins = new Twins(check, () -> withSignal(1, 7, 1), () -> withSignal(1, 0, 16));
        twins.none("event(20, 0, 1, 2, 0)", x -> x.event(20, 0, 1, 2, 0));
        HeaderSchedule x = withSignal(1, 7, 1);
        check.none("refused", x.event(20, 0, 1, 2, 0));
        check.due("the others are not associated by that", x.event(20, 0, 2, NONE, 0), 0);
    }

    public static void main(String[] args) {
        Section section = new Section("Promise 5: event");
        section.sentence("Makes an event frame with the associated frames a, b and c", Promise05EventTest::ofThree);
        section.sentence("or a and b alone when c is NONE", Promise05EventTest::ofTwo);
        section.sentence("and a resolving table", Promise05EventTest::resolvingTable);
        section.sentence("its number among the event frames", Promise05EventTest::number);
        section.sentence("NONE when started", Promise05EventTest::started);
        section.sentence("two are there", Promise05EventTest::twoAreThere);
        section.sentence("the identifier is not 0 .. 59", Promise05EventTest::identifierRange);
        section.sentence("the identifier is -- borne by a frame", Promise05EventTest::borneByAFrame);
        section.sentence("the identifier is -- borne by -- an event frame", Promise05EventTest::borneByAnEventFrame);
        section.sentence("the table is not 0 .. 2", Promise05EventTest::table);
        section.sentence("one does not exist", Promise05EventTest::doesNotExist);
        section.sentence("is associated already", Promise05EventTest::associatedAlready);
        section.sentence("is published by the master", Promise05EventTest::ofTheMaster);
        section.sentence("or by the publisher of another of them", Promise05EventTest::ofTheSamePublisher);
        section.sentence("has another length", Promise05EventTest::anotherLength);
        section.sentence("or the other checksum", Promise05EventTest::theOtherChecksum);
        section.sentence("has a signal with one of the bits 0 .. 7", Promise05EventTest::signalInByteZero);
        section.end();
    }
}
