/** Promise 1, sentence by sentence. */
public final class Promise01NewObjectTest {
    private static final int NONE = HeaderSchedule.NONE;

    private static void noFrames(Check check) {
        HeaderSchedule x = new HeaderSchedule();
        for (int i = -1; i <= 8; i++) {
            check.no("pending(" + i + ")", x.pending(i));
            check.none("signal in frame " + i, x.signal(i, 0, 1, 0));
            check.no("entry of frame " + i, x.entry(0, 0, i, 1));
        }
        check.none("a group", x.sporadic(0, 1, NONE));
        check.none("an event frame", x.event(0, 0, 1, NONE, 0));
        check.due("the first frame", x.frame(0, 0, 1, false), 0);
    }

    private static void noSignals(Check check) {
        HeaderSchedule x = new HeaderSchedule();
        for (int i = -1; i <= 16; i++) {
            check.none("read(" + i + ")", x.read(i));
            check.no("fresh(" + i + ")", x.fresh(i));
            check.no("write(" + i + ", 0)", x.write(i, 0));
        }
        x.frame(0, 0, 1, false);
        check.due("the first signal", x.signal(0, 0, 1, 0), 0);
    }

    private static void emptyTables(Check check) {
        HeaderSchedule x = new HeaderSchedule();
        x.frame(0, 0, 1, false);
        for (int table = 0; table < 3; table++) {
            check.no("start(" + table + ")", x.start(table));
        }
        for (int table = 0; table < 3; table++) {
            for (int i = 0; i < 8; i++) {
                check.yes("entry " + i + " of table " + table, x.entry(table, 0, 0, 1));
            }
        }
    }

    private static void notStarted(Check check) {
        HeaderSchedule x = new HeaderSchedule();
        check.none("tick()", x.tick());
        check.none("position()", x.position());
        check.no("sleep()", x.sleep());
        check.no("wake()", x.wake());
        for (int i = 0; i < 3; i++) {
            check.no("request(" + i + ")", x.request(i));
        }
        for (int k = 0; k < 10; k++) {
            check.none("bus(" + k + ")", x.bus(k));
        }
        for (int answer = 1; answer <= 4; answer++) {
            check.due("count(" + answer + ")", x.count(answer), 0);
        }
        x.frame(0, 0, 1, false);
        x.entry(0, 0, 0, 1);
        check.yes("start(0)", x.start(0));
    }

    /** Nothing is held by the class: what is made in one object is not in the next. */
    private static void eachByItself(Check check) {
        HeaderSchedule busy = Scenes.running();
        HeaderSchedule x = new HeaderSchedule();
        check.none("tick() of the new one", x.tick());
        check.due("its first frame", x.frame(8, 0, 1, false), 0);
        check.due("count(1) of the other", busy.count(1), 1);
        check.due("position() of the other", busy.position(), 1);
    }

    public static void main(String[] args) {
        Section section = new Section("Promise 1: A new object");
        section.sentence("No frames", Promise01NewObjectTest::noFrames);
        section.sentence("no signals", Promise01NewObjectTest::noSignals);
        section.sentence("empty tables", Promise01NewObjectTest::emptyTables);
        section.sentence("not started", Promise01NewObjectTest::notStarted);
        section.sentence("`HeaderSchedule()`: No frames, no signals, empty tables; not started.",
            Promise01NewObjectTest::eachByItself);
        section.end();
    }
}
