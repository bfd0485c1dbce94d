/** Promise 19, sentence by sentence. */
public final class Promise19WakeTest {
    private static final int NONE = HeaderSchedule.NONE;

    private static void nextTickIsABoundary(Check check) {
        HeaderSchedule x = Scenes.started();
        check.ticks(x, 1);
        x.sleep();
        check.ticks(x, NONE);
        check.yes("wake()", x.wake());
        check.due("no boundary by itself", x.position(), 1);
        check.due("nor a slot", x.count(1) + x.count(2), 1);
        check.ticks(x, 2);
        check.due("the next slot", x.position(), 2);
        HeaderSchedule end = Scenes.made();
        end.start(2);
        check.ticks(end, 1);
        end.sleep();
        check.yes("wake()", end.wake());
        check.due("all are done", end.position(), 32 + 1);
        check.ticks(end, 1);
        check.due("its first again", end.position(), 32 + 1);
        check.ticks(end, 1);
    }

    private static void delayOfTheSlotAfterwards(Check check) {
        HeaderSchedule x = Scenes.started();
        x.sleep();
        x.wake();
        check.ticks(x, 1, 0, 2, 2, 0, 1, 0);
    }

    private static void notAsleep(Check check) {
        Twins twins = new Twins(check, Scenes::fresh, Scenes::laden, Scenes::started, Scenes::running,
            Scenes::collided, Scenes::resolving);
        twins.no("wake()", x -> x.wake());
        HeaderSchedule x = Scenes.started();
        check.ticks(x, 1);
        check.no("awake", x.wake());
        check.ticks(x, 0);
        check.yes("sleep()", x.sleep());
        check.yes("wake()", x.wake());
        check.no("awake again", x.wake());
        check.no("not started", Scenes.made().wake());
    }

    public static void main(String[] args) {
        Section section = new Section("Promise 19: wake");
        section.sentence("Wakes the bus: true; the next tick is a boundary.", Promise19WakeTest::nextTickIsABoundary);
        section.sentence("Wakes the bus: true", Promise19WakeTest::delayOfTheSlotAfterwards);
        section.sentence("False when it is not asleep.", Promise19WakeTest::notAsleep);
        section.end();
    }
}
