/** Promise 18, sentence by sentence. */
public final class Promise18SleepTest {
    private static final int NONE = HeaderSchedule.NONE;

    private static void sleeps(Check check) {
        HeaderSchedule x = Scenes.started();
        check.yes("before the first tick", x.sleep());
        check.ticks(x, NONE, NONE);
        x.wake();
        check.ticks(x, 1);
        check.yes("in a slot", x.sleep());
        check.ticks(x, NONE, NONE);
        x.wake();
        check.yes("between two slots", x.sleep());
        check.ticks(x, NONE);
        check.yes("in a resolving run", Scenes.resolving().sleep());
        check.due("nothing began", x.count(1) + x.count(2), 1);
    }

    /** Of 20 ticks the first, the tenth or the last is the latest before the sleep. */
    private static void cutOff(Check check) {
        for (int ticks : new int[] {1, 10, 19, 20}) {
            HeaderSchedule x = new HeaderSchedule();
            x.frame(8, 0, 1, false);
            x.frame(13, 0, 1, false);
            x.entry(0, 0, 0, 20);
            x.entry(0, 0, 1, 2);
            x.start(0);
            check.ticks(x, 1);
            for (int i = 1; i < ticks; i++) {
                check.ticks(x, 0);
            }
            check.yes("sleep() after " + ticks + " ticks", x.sleep());
            check.yes("wake()", x.wake());
            check.ticks(x, 1);
            check.due("the next slot at once", x.bus(0), 0x0D);
            check.ticks(x, 0, 1);
            check.due("then the first again", x.bus(0), 0x08);
        }
    }

    private static void notAnew(Check check) {
        HeaderSchedule x = Scenes.started();
        check.ticks(x, 1);
        x.sleep();
        check.due("it stays counted", x.count(1), 1);
        check.due("it stays on the bus", x.bus(0), 0x08);
        check.yes("it stays received", x.fresh(0));
        x.wake();
        check.ticks(x, 2);
        check.due("the one behind it", x.position(), 2);
        HeaderSchedule y = Scenes.collided();
        y.sleep();
        y.wake();
        check.ticks(y, 1);
        check.due("an event frame's slot: its resolving run comes", y.position(), 64 + 16 + 1);
        check.due("count(4)", y.count(4), 1);
    }

    private static void stays(Check check) {
        HeaderSchedule x = Scenes.running();
        x.sleep();
        check.yes("written: frame 1", x.pending(1));
        check.yes("written: frame 2", x.pending(2));
        x.wake();
        check.yes("written: frame 1", x.pending(1));
        check.ticks(x, 3);
        check.due("requested: table 2", x.position(), 32 + 1);
        check.bytes(x, 0x0D, 0xFF, 40, 215 ^ 3);
        check.ticks(x, 1);
        check.due("written: signal 1", x.read(1), 40);
    }

    private static void notStarted(Check check) {
        Twins twins = new Twins(check, Scenes::fresh, Scenes::made, Scenes::laden);
        twins.no("sleep()", x -> x.sleep());
        HeaderSchedule x = Scenes.made();
        check.no("sleep()", x.sleep());
        check.no("it does not sleep", x.wake());
        x.start(0);
        check.ticks(x, 1);
    }

    private static void asleep(Check check) {
        new Twins(check, Scenes::asleep).no("sleep()", x -> x.sleep());
        HeaderSchedule x = Scenes.started();
        check.yes("sleep()", x.sleep());
        check.no("again", x.sleep());
        check.no("and again", x.sleep());
        check.yes("one wake() is enough", x.wake());
        check.ticks(x, 1);
        check.yes("sleep() when awake again", x.sleep());
    }

    public static void main(String[] args) {
        Section section = new Section("Promise 18: sleep");
        section.sentence("Lets the bus sleep: true.", Promise18SleepTest::sleeps);
        section.sentence("A slot that is under way is cut off", Promise18SleepTest::cutOff);
        section.sentence("it does not happen anew.", Promise18SleepTest::notAnew);
        section.sentence("What was requested, ordered, written stays.", Promise18SleepTest::stays);
        section.sentence("False when not started", Promise18SleepTest::notStarted);
        section.sentence("False when -- asleep.", Promise18SleepTest::asleep);
        section.end();
    }
}
