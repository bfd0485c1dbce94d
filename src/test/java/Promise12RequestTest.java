/** Promise 12, sentence by sentence. */
public final class Promise12RequestTest {
    /** Frames 0, 1, 2 (headers 0x08, 0x0D, 0x11); table 0: 0 for 2 ticks, 1 for 1; table 2: 2 for 1; 1 is empty. */
    private static HeaderSchedule twoTables() {
        HeaderSchedule x = new HeaderSchedule();
        x.frame(8, 0, 1, false);
        x.frame(13, 0, 1, false);
        x.frame(17, 0, 1, false);
        x.entry(0, 0, 0, 2);
        x.entry(0, 0, 1, 1);
        x.entry(2, 0, 2, 1);
        return x;
    }

    private static HeaderSchedule started() {
        HeaderSchedule x = twoTables();
        x.start(0);
        return x;
    }

    /** Table 2 is requested and not begun. */
    private static HeaderSchedule requested() {
        HeaderSchedule x = started();
        x.tick();
        x.request(2);
        return x;
    }

    private static void requests(Check check) {
        HeaderSchedule x = started();
        check.ticks(x, 1);
        check.yes("request(2)", x.request(2));
        check.due("not before the boundary", x.position(), 1);
        check.ticks(x, 0);
        check.due("not before the boundary", x.position(), 1);
        check.ticks(x, 1);
        check.due("begun", x.position(), 32 + 1);
        check.due("its first entry", x.bus(0), 0x11);
        check.yes("back", x.request(0));
        check.ticks(x, 1);
        check.due("from its first entry", x.bus(0), 0x08);
        check.ticks(x, 0, 1);
        check.due("the request is done with", x.bus(0), 0x0D);
    }

    private static void thePresentOne(Check check) {
        HeaderSchedule x = started();
        check.ticks(x, 1);
        check.yes("request(0)", x.request(0));
        check.ticks(x, 0, 1);
        check.due("the first entry again", x.bus(0), 0x08);
        check.due("position()", x.position(), 1);
        check.ticks(x, 0, 1);
        check.due("then the second", x.bus(0), 0x0D);
    }

    private static void whileAsleep(Check check) {
        HeaderSchedule x = started();
        check.ticks(x, 1);
        x.sleep();
        check.yes("request(2)", x.request(2));
        check.no("a refused one", x.request(1));
        check.ticks(x, HeaderSchedule.NONE);
        check.due("not begun asleep", x.position(), 1);
        x.wake();
        check.due("nor by waking", x.position(), 1);
        check.ticks(x, 1);
        check.due("begun", x.bus(0), 0x11);
    }

    private static void inPlaceOfAnother(Check check) {
        HeaderSchedule x = requested();
        check.yes("request(0) in place of 2", x.request(0));
        check.ticks(x, 0, 1);
        check.due("table 0 from its first entry", x.bus(0), 0x08);
        check.ticks(x, 0, 1, 1);
        check.due("table 2 never", x.bus(0), 0x08);
        HeaderSchedule y = requested();
        check.yes("request(2) twice", y.request(2));
        check.ticks(y, 0, 1);
        check.due("begun", y.bus(0), 0x11);
        check.yes("request(0)", y.request(0));
        check.ticks(y, 1);
        check.due("2 was done with", y.bus(0), 0x08);
    }

    private static void notStarted(Check check) {
        Twins twins = new Twins(check, Scenes::fresh, Scenes::laden, Promise12RequestTest::twoTables);
        for (int table = 0; table < 3; table++) {
            int one = table;
            twins.no("request(" + table + ")", x -> x.request(one));
        }
        HeaderSchedule x = twoTables();
        check.no("request(2)", x.request(2));
        x.start(0);
        check.ticks(x, 1);
        check.due("it was not kept", x.bus(0), 0x08);
        check.yes("request(2) when started", x.request(2));
    }

    private static void table(Check check) {
        Twins twins = new Twins(check, Promise12RequestTest::started, Promise12RequestTest::requested, Scenes::running,
            Scenes::resolving, Scenes::asleep);
        for (int table : new int[] {-1, 3, 4, Integer.MIN_VALUE, Integer.MAX_VALUE}) {
            twins.no("request(" + table + ")", x -> x.request(table));
        }
        HeaderSchedule x = requested();
        check.no("request(3)", x.request(3));
        check.no("request(-1)", x.request(-1));
        check.ticks(x, 0, 1);
        check.due("the one before stays", x.bus(0), 0x11);
        check.yes("the first table", x.request(0));
        check.yes("the last table", x.request(2));
    }

    private static void empty(Check check) {
        Twins twins = new Twins(check, Promise12RequestTest::started, Promise12RequestTest::requested);
        twins.no("request(1)", x -> x.request(1));
        HeaderSchedule x = requested();
        check.no("an empty one", x.request(1));
        check.ticks(x, 0, 1);
        check.due("the one before stays", x.bus(0), 0x11);
        HeaderSchedule y = started();
        check.no("an empty one", y.request(1));
        check.ticks(y, 1, 0, 1, 1);
        check.due("table 0 goes on", y.bus(0), 0x08);
        HeaderSchedule z = twoTables();
        z.entry(1, 0, 2, 1);
        z.start(0);
        check.yes("with one entry", z.request(1));
    }

    public static void main(String[] args) {
        Section section = new Section("Promise 12: request");
        section.sentence("Requests a table", Promise12RequestTest::requests);
        section.sentence("(the present one, too", Promise12RequestTest::thePresentOne);
        section.sentence("also while asleep)", Promise12RequestTest::whileAsleep);
        section.sentence("in place of one requested before that was not begun: true.",
            Promise12RequestTest::inPlaceOfAnother);
        section.sentence("False when not started", Promise12RequestTest::notStarted);
        section.sentence("the table is not 0 .. 2", Promise12RequestTest::table);
        section.sentence("or is empty", Promise12RequestTest::empty);
        section.end();
    }
}
