/** Promise 17, sentence by sentence. */
public final class Promise17PositionTest {
    private static HeaderSchedule ofEntries(int table, int many) {
        HeaderSchedule x = new HeaderSchedule();
        x.frame(8, 0, 1, false);
        for (int i = 0; i < many; i++) {
            x.entry(table, 0, 0, 2);
        }
        x.start(table);
        return x;
    }

    private static void tableAndNext(Check check) {
        for (int table = 0; table < 3; table++) {
            HeaderSchedule x = ofEntries(table, 8);
            check.due("after start", x.position(), 16 * table);
            for (int i = 1; i < 8; i++) {
                check.ticks(x, 1);
                check.due("the entry behind slot " + i, x.position(), 16 * table + i);
                check.ticks(x, 0);
                check.due("in slot " + i, x.position(), 16 * table + i);
            }
        }
        HeaderSchedule x = Scenes.started();
        x.request(2);
        check.due("a request is not begun", x.position(), 0);
        check.ticks(x, 1);
        check.due("begun", x.position(), 32 + 1);
    }

    private static void allWereDone(Check check) {
        for (int many = 1; many <= 8; many++) {
            HeaderSchedule x = ofEntries(1, many);
            for (int i = 0; i < many; i++) {
                check.ticks(x, 1, 0);
            }
            check.due("all " + many + " were done", x.position(), 16 + many);
            check.ticks(x, 1);
            check.due("a boundary came", x.position(), 16 + 1);
        }
        HeaderSchedule x = ofEntries(2, 1);
        check.ticks(x, 1);
        x.sleep();
        check.due("asleep", x.position(), 32 + 1);
        x.wake();
        check.due("awake, no boundary yet", x.position(), 32 + 1);
        x.request(2);
        check.due("requested, no boundary yet", x.position(), 32 + 1);
    }

    private static void sixtyFourMore(Check check) {
        HeaderSchedule x = Scenes.collided();
        check.due("before the boundary", x.position(), 3);
        check.ticks(x, 0);
        check.due("before the boundary", x.position(), 3);
        check.ticks(x, 1);
        check.due("begun", x.position(), 64 + 16 + 1);
        check.ticks(x, 1);
        check.due("all of its entries were done", x.position(), 64 + 16 + 2);
        x.sleep();
        check.due("asleep in it", x.position(), 64 + 16 + 2);
        x.wake();
        check.due("awake in it", x.position(), 64 + 16 + 2);
        check.ticks(x, 1);
        check.due("over", x.position(), 1);
    }

    private static void notStarted(Check check) {
        new Twins(check, Scenes::fresh, Scenes::laden).none("position()", x -> x.position());
        HeaderSchedule x = Scenes.made();
        check.none("made", x.position());
        check.no("refused", x.start(3));
        check.none("still not", x.position());
        x.start(1);
        check.due("started", x.position(), 16);
    }

    public static void main(String[] args) {
        Section section = new Section("Promise 17: position");
        section.sentence("16 * the present table + the number (from 0) of its entry that is next",
            Promise17PositionTest::tableAndNext);
        section.sentence("or the number of its entries when all of them were done and no boundary came since",
            Promise17PositionTest::allWereDone);
        section.sentence("64 more while a resolving run is under way.", Promise17PositionTest::sixtyFourMore);
        section.sentence("NONE when not started.", Promise17PositionTest::notStarted);
        section.end();
    }
}
