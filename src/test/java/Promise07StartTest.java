/** Promise 7, sentence by sentence. */
public final class Promise07StartTest {
    private static final int NONE = HeaderSchedule.NONE;

    private static HeaderSchedule oneFrameIn(int table) {
        HeaderSchedule x = new HeaderSchedule();
        x.frame(8, 0, 1, false);
        x.frame(13, 0, 1, false);
        x.entry(table, 0, 1, 1);
        x.entry(table, 0, 0, 1);
        return x;
    }

    private static void starts(Check check) {
        for (int table = 0; table < 3; table++) {
            HeaderSchedule x = oneFrameIn(table);
            check.yes("start(" + table + ")", x.start(table));
            check.due("position()", x.position(), 16 * table);
            check.none("no slot yet", x.bus(0));
            check.ticks(x, 1);
            check.due("its first entry", x.bus(0), 0x0D);
        }
    }

    private static void startedAlready(Check check) {
        Twins twins = new Twins(check, Scenes::started, Scenes::running, Scenes::resolving, Scenes::asleep);
        for (int table = 0; table < 3; table++) {
            int one = table;
            twins.no("start(" + table + ")", x -> x.start(one));
        }
        HeaderSchedule x = Scenes.running();
        check.due("in the first slot", x.position(), 1);
        check.no("start(0)", x.start(0));
        check.due("still there", x.position(), 1);
        check.ticks(x, 0);
    }

    private static void table(Check check) {
        Twins twins = new Twins(check, Scenes::fresh, Scenes::laden);
        for (int table : new int[] {-1, 3, 4, Integer.MIN_VALUE, Integer.MAX_VALUE}) {
            twins.no("start(" + table + ")", x -> x.start(table));
        }
        check.yes("start(0)", Scenes.made().start(0));
        check.yes("start(2)", Scenes.made().start(2));
    }

    private static void empty(Check check) {
        for (int table = 0; table < 3; table++) {
            int one = table;
            Twins twins = new Twins(check, Scenes::fresh, () -> oneFrameIn((one + 1) % 3));
            twins.no("start(" + table + ")", x -> x.start(one));
            HeaderSchedule x = oneFrameIn((table + 1) % 3);
            check.no("start(" + table + ")", x.start(table));
            check.none("not started", x.tick());
            check.yes("an entry can be made still", x.entry(table, 0, 0, 1));
            check.yes("with one entry", x.start(table));
        }
    }

    /**
     * Event frame 0 of the frames 0, 1, 2 with table 1, event frame 1 of 3, 4 with table 2; group 0 of 5, 6. Table 0
     * has frame 5; the other two are empty.
     */
    private static HeaderSchedule twoEvents() {
        HeaderSchedule x = new HeaderSchedule();
        for (int i = 0; i < 5; i++) {
            x.frame(10 + i, 1 + i % 3, 2, false);
        }
        x.frame(20, 0, 2, false);
        x.frame(21, 0, 2, false);
        x.sporadic(5, 6, NONE);
        x.event(30, 0, 1, 2, 1);
        x.event(31, 3, 4, NONE, 2);
        x.entry(0, 0, 5, 1);
        return x;
    }

    private static HeaderSchedule withEntries(int[] inTable1, int[] inTable2) {
        HeaderSchedule x = twoEvents();
        for (int f : inTable1) {
            x.entry(1, 0, f, 1);
        }
        for (int f : inTable2) {
            x.entry(2, 0, f, 1);
        }
        return x;
    }

    private static HeaderSchedule complete() {
        return withEntries(new int[] {0, 1, 2}, new int[] {3, 4});
    }

    private static HeaderSchedule completeAndMore(int table, int kind, int number) {
        HeaderSchedule x = complete();
        x.entry(table, kind, number, 1);
        return x;
    }

    private static void noStartOfAnyTable(Check check, String why, Twins.Scene scene) {
        Twins twins = new Twins(check, scene);
        for (int table = 0; table < 3; table++) {
            int one = table;
            twins.no("start(" + table + "), " + why, x -> x.start(one));
        }
        HeaderSchedule x = scene.get();
        check.no("start(0), " + why, x.start(0));
        check.none("tick() after it", x.tick());
        check.none("position() after it", x.position());
        check.due("a frame can be made still", x.frame(50, 0, 1, false), 7);
    }

    private static void noFrame(Check check) {
        for (int table = 1; table <= 2; table++) {
            for (int kind = 1; kind <= 2; kind++) {
                int one = table;
                int other = kind;
                noStartOfAnyTable(check, "table " + table + " has kind " + kind,
                    () -> completeAndMore(one, other, 0));
            }
        }
        HeaderSchedule first = twoEvents();
        first.entry(1, 1, 0, 1);
        for (int f : new int[] {0, 1, 2, 3, 4}) {
            first.entry(f < 3 ? 1 : 2, 0, f, 1);
        }
        check.no("the first entry is a group", first.start(0));
        check.yes("a group in a table that resolves nothing", completeAndMore(0, 1, 0).start(0));
        check.yes("an event frame in it", completeAndMore(0, 2, 1).start(0));
        check.yes("further frames in a resolving table", completeAndMore(1, 0, 6).start(0));
    }

    private static void notEveryFrame(Check check) {
        noStartOfAnyTable(check, "both are empty", Promise07StartTest::twoEvents);
        noStartOfAnyTable(check, "0 is missing", () -> withEntries(new int[] {1, 2}, new int[] {3, 4}));
        noStartOfAnyTable(check, "1 is missing", () -> withEntries(new int[] {0, 2}, new int[] {3, 4}));
        noStartOfAnyTable(check, "2 is missing", () -> withEntries(new int[] {0, 1}, new int[] {3, 4}));
        noStartOfAnyTable(check, "3 is missing", () -> withEntries(new int[] {0, 1, 2}, new int[] {4}));
        noStartOfAnyTable(check, "4 is missing", () -> withEntries(new int[] {0, 1, 2}, new int[] {3}));
        noStartOfAnyTable(check, "2 is in the other one", () -> withEntries(new int[] {0, 1}, new int[] {3, 4, 2}));
        noStartOfAnyTable(check, "1 twice, no 2", () -> withEntries(new int[] {0, 1, 1}, new int[] {3, 4}));
        noStartOfAnyTable(check, "the second is empty", () -> withEntries(new int[] {0, 1, 2}, new int[] {}));
        for (int table = 0; table < 3; table++) {
            check.yes("all are there", complete().start(table));
        }
        check.yes("in another order", withEntries(new int[] {2, 5, 0, 1}, new int[] {4, 4, 3}).start(0));
        HeaderSchedule x = withEntries(new int[] {0, 1, 2}, new int[] {3});
        check.no("4 is missing", x.start(0));
        x.entry(2, 0, 4, 1);
        check.yes("now it is there", x.start(0));
    }

    public static void main(String[] args) {
        Section section = new Section("Promise 7: start");
        section.sentence("Starts with a table: true.", Promise07StartTest::starts);
        section.sentence("False when started already", Promise07StartTest::startedAlready);
        section.sentence("the table is not 0 .. 2", Promise07StartTest::table);
        section.sentence("or is empty", Promise07StartTest::empty);
        section.sentence("some event frame's resolving table has an entry that is no frame",
            Promise07StartTest::noFrame);
        section.sentence("does not have every frame associated with that event frame among its entries",
            Promise07StartTest::notEveryFrame);
        section.end();
    }
}
