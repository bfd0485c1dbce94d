/** Promise 11, sentence by sentence. */
public final class Promise11PendingTest {
    private static void whether(Check check) {
        HeaderSchedule x = Scenes.oneFrame(false, 1, 2);
        check.no("made", x.pending(0));
        check.ticks(x, 1);
        check.no("received", x.pending(0));
        x.write(1, 2);
        check.yes("its last signal was written", x.pending(0));
        check.yes("asked twice", x.pending(0));
        x.sleep();
        check.yes("asleep", x.pending(0));
        x.wake();
        x.noise(0, 1);
        check.ticks(x, 3);
        check.yes("not valid", x.pending(0));
        check.ticks(x, 1);
        check.no("received", x.pending(0));
    }

    private static void noSuchFrame(Check check) {
        Twins twins = new Twins(check, Scenes::laden, Scenes::running, Scenes::resolving, Scenes::asleep);
        for (int frame : new int[] {-1, 4, 5, 8, Integer.MIN_VALUE, Integer.MAX_VALUE}) {
            twins.no("pending(" + frame + ")", x -> x.pending(frame));
        }
        HeaderSchedule x = new HeaderSchedule();
        for (int i = 0; i < 8; i++) {
            x.frame(i, 0, 1, false);
            x.signal(i, 0, 8, 0);
            x.write(i, 1);
            check.yes("the last", x.pending(i));
            check.no("behind the last", x.pending(i + 1));
        }
        check.yes("the first", x.pending(0));
        check.no("before the first", x.pending(-1));
    }

    public static void main(String[] args) {
        Section section = new Section("Promise 11: pending");
        section.sentence("Whether a frame is pending.", Promise11PendingTest::whether);
        section.sentence("False when there is no such frame.", Promise11PendingTest::noSuchFrame);
        section.end();
    }
}
