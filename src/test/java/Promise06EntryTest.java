/** Promise 6, sentence by sentence. */
public final class Promise06EntryTest {
    private static final int NONE = HeaderSchedule.NONE;

    /** Frames 0 .. 5: 0 .. 2 of the master, 3 .. 5 of the slaves, with a signal each in byte 1; no entries yet. */
    private static HeaderSchedule sixFrames() {
        HeaderSchedule x = new HeaderSchedule();
        for (int i = 0; i < 6; i++) {
            x.frame(20 + i, Math.max(0, i - 2), 2, false);
            x.signal(i, 8, 8, i);
        }
        return x;
    }

    /** As sixFrames(), with two groups and an event frame (header 0x03) which table 2 resolves. */
    private static HeaderSchedule withGroupsAndEvent() {
        HeaderSchedule x = sixFrames();
        x.sporadic(0, 1, 2);
        x.sporadic(1, 2, NONE);
        x.event(3, 3, 4, NONE, 2);
        x.entry(2, 0, 3, 1);
        x.entry(2, 0, 4, 1);
        return x;
    }

    private static void atTheEnd(Check check) {
        HeaderSchedule x = sixFrames();
        int[] order = {5, 0, 0, 3, 1};
        for (int f : order) {
            check.yes("entry(0, 0, " + f + ", 1)", x.entry(0, 0, f, 1));
            check.yes("entry(1, 0, 2, 1)", x.entry(1, 0, 2, 1));
        }
        x.start(0);
        for (int f : order) {
            check.ticks(x, 1);
            check.due("header of frame " + f, x.bus(0), Scenes.protect(20 + f));
        }
        check.due("all are done", x.position(), 5);
    }

    private static void kinds(Check check) {
        HeaderSchedule x = withGroupsAndEvent();
        check.yes("kind 0", x.entry(0, 0, 1, 1));
        check.yes("kind 1", x.entry(0, 1, 1, 1));
        check.yes("kind 2", x.entry(0, 2, 0, 1));
        x.start(0);
        x.write(0, 1);
        x.write(2, 1);
        x.write(4, 1);
        check.ticks(x, 1);
        check.due("frame 1", x.bus(0), Scenes.protect(21));
        check.ticks(x, 1);
        check.due("group 1: of 1 and 2 the pending one", x.bus(0), Scenes.protect(22));
        check.ticks(x, 1);
        check.due("event frame 0", x.bus(0), 0x03);
    }

    private static void started(Check check) {
        check.yes("before start", Scenes.made().entry(2, 0, 0, 1));
        Twins twins = new Twins(check, Scenes::started, Scenes::running, Scenes::resolving, Scenes::asleep);
        for (int table = 0; table < 3; table++) {
            int one = table;
            twins.no("entry(" + table + ", 0, 0, 1)", x -> x.entry(one, 0, 0, 1));
        }
    }

    private static void table(Check check) {
        Twins twins = new Twins(check, Promise06EntryTest::sixFrames, Scenes::laden);
        for (int table : new int[] {-1, 3, 4, Integer.MIN_VALUE, Integer.MAX_VALUE}) {
            twins.no("entry(" + table + ", 0, 0, 1)", x -> x.entry(table, 0, 0, 1));
        }
        HeaderSchedule x = sixFrames();
        for (int table = 0; table < 3; table++) {
            check.no("empty before", x.start(table));
            check.yes("table " + table, x.entry(table, 0, 0, 1));
        }
        check.yes("not empty", x.start(2));
    }

    private static HeaderSchedule eightEntries() {
        HeaderSchedule x = sixFrames();
        for (int i = 0; i < 8; i++) {
            x.entry(1, 0, i % 6, 1);
        }
        return x;
    }

    private static void eightEntriesAreThere(Check check) {
        for (int table = 0; table < 3; table++) {
            HeaderSchedule x = sixFrames();
            for (int i = 0; i < 7; i++) {
                x.entry(table, 0, 0, 1);
            }
            check.yes("the eighth", x.entry(table, 0, 1, 1));
            check.no("the ninth", x.entry(table, 0, 2, 1));
            check.yes("in another table", x.entry((table + 1) % 3, 0, 2, 1));
            x.start(table);
            check.ticks(x, 1, 1, 1, 1, 1, 1, 1);
            check.due("seven are done", x.position(), 16 * table + 7);
            check.ticks(x, 1);
            check.due("the eighth", x.bus(0), Scenes.protect(21));
            check.due("all are done", x.position(), 16 * table + 8);
            check.ticks(x, 1);
            check.due("the first again", x.bus(0), Scenes.protect(20));
        }
        new Twins(check, Promise06EntryTest::eightEntries).no("the ninth", x -> x.entry(1, 0, 0, 1));
    }

    private static void noSuchKind(Check check) {
        Twins twins = new Twins(check, Promise06EntryTest::sixFrames, Promise06EntryTest::withGroupsAndEvent);
        for (int kind : new int[] {-1, 3, 4, Integer.MIN_VALUE, Integer.MAX_VALUE}) {
            twins.no("entry(0, " + kind + ", 0, 1)", x -> x.entry(0, kind, 0, 1));
        }
        HeaderSchedule x = withGroupsAndEvent();
        for (int kind = 0; kind <= 2; kind++) {
            check.yes("kind " + kind, x.entry(0, kind, 0, 1));
        }
    }

    private static void noSuchNumber(Check check) {
        int[] counts = {6, 2, 1};
        Twins twins = new Twins(check, Promise06EntryTest::withGroupsAndEvent);
        for (int kind = 0; kind <= 2; kind++) {
            int one = kind;
            for (int number : new int[] {-1, counts[kind], 8, Integer.MIN_VALUE, Integer.MAX_VALUE}) {
                twins.no("entry(0, " + kind + ", " + number + ", 1)", x -> x.entry(0, one, number, 1));
            }
            HeaderSchedule x = withGroupsAndEvent();
            check.yes("the first of kind " + kind, x.entry(0, kind, 0, 1));
            check.yes("the last of kind " + kind, x.entry(0, kind, counts[kind] - 1, 1));
            check.no("behind the last of kind " + kind, x.entry(0, kind, counts[kind], 1));
            check.no("of kind " + kind + " in a new object", new HeaderSchedule().entry(0, kind, 0, 1));
        }
        check.no("no group", sixFrames().entry(0, 1, 0, 1));
        check.no("no event frame", sixFrames().entry(0, 2, 0, 1));
    }

    private static void delay(Check check) {
        Twins twins = new Twins(check, Promise06EntryTest::sixFrames, Scenes::laden);
        for (int delay : new int[] {0, 21, -1, 22, Integer.MIN_VALUE, Integer.MAX_VALUE}) {
            twins.no("entry(0, 0, 0, " + delay + ")", x -> x.entry(0, 0, 0, delay));
        }
        for (int delay = 1; delay <= 20; delay++) {
            HeaderSchedule x = sixFrames();
            check.yes("delay " + delay, x.entry(0, 0, 0, delay));
            check.yes("delay 1", x.entry(0, 0, 1, 1));
            x.start(0);
            check.ticks(x, 1);
            for (int i = 1; i < delay; i++) {
                check.ticks(x, 0);
            }
            check.due("still the first slot", x.bus(0), Scenes.protect(20));
            check.ticks(x, 1);
            check.due("the second slot after " + delay, x.bus(0), Scenes.protect(21));
        }
    }

    public static void main(String[] args) {
        Section section = new Section("Promise 6: entry");
        section.sentence("Adds an entry at the end of a table: true.", Promise06EntryTest::atTheEnd);
        section.sentence("Kind 0: frame number, 1: sporadic group number, 2: event frame number.",
            Promise06EntryTest::kinds);
        section.sentence("False when started", Promise06EntryTest::started);
        section.sentence("the table is not 0 .. 2", Promise06EntryTest::table);
        section.sentence("or has 8 entries", Promise06EntryTest::eightEntriesAreThere);
        section.sentence("the kind is none of these", Promise06EntryTest::noSuchKind);
        section.sentence("there is nothing with that number", Promise06EntryTest::noSuchNumber);
        section.sentence("the delay is not 1 .. 20", Promise06EntryTest::delay);
        section.end();
    }
}
