/** Promises 8 to 11: writing and reading signals, fresh and pending. */
public final class SignalsTest {
    private static final int NONE = HeaderSchedule.NONE;
    private final Check check = new Check();

    /** Two frames, each with two signals, in turn, a tick each. */
    private static HeaderSchedule twoFrames() {
        HeaderSchedule x = new HeaderSchedule();
        x.frame(16, 1, 3, true);
        x.frame(17, 0, 8, false);
        x.signal(0, 3, 7, 100);
        x.signal(0, 10, 14, 9999);
        x.signal(1, 0, 1, 1);
        x.signal(1, 48, 16, 40000);
        x.entry(0, 0, 0, 1);
        x.entry(0, 0, 1, 1);
        return x;
    }

    private void writeArguments() {
        HeaderSchedule x = twoFrames();
        check.no("signal -1", x.write(-1, 0));
        check.no("signal 4", x.write(4, 0));
        check.no("value -1", x.write(0, -1));
        check.no("value 128 in 7 bits", x.write(0, 128));
        check.no("value 65536 in 16 bits", x.write(3, 65536));
        check.no("least value", x.write(3, Integer.MIN_VALUE));
        check.no("refused: not pending", x.pending(0));
        check.no("refused: not pending", x.pending(1));
        check.yes("127", x.write(0, 127));
        check.yes("65535", x.write(3, 65535));
        check.yes("0", x.write(2, 0));
        x.start(0);
        check.ticks(x, 1, 1);
        check.due("read(0)", x.read(0), 127);
        check.due("read(1)", x.read(1), 9999);
        check.due("read(2)", x.read(2), 0);
        check.due("read(3)", x.read(3), 65535);
    }

    private void refusedWriteKeepsTheWritten() {
        HeaderSchedule x = twoFrames();
        x.start(0);
        x.write(1, 5);
        check.no("too big", x.write(1, 1 << 14));
        check.ticks(x, 1);
        check.due("read(1)", x.read(1), 5);
    }

    private void readWaitsForTheFrame() {
        HeaderSchedule x = twoFrames();
        x.start(0);
        x.write(0, 1);
        x.write(3, 2);
        check.due("made with", x.read(0), 100);
        check.ticks(x, 1);
        check.due("received", x.read(0), 1);
        check.due("its frame was not", x.read(3), 40000);
        check.ticks(x, 1);
        check.due("now it was", x.read(3), 2);
        x.write(0, 50);
        x.write(0, 60);
        check.ticks(x, 1);
        check.due("the later one", x.read(0), 60);
        check.due("read(-1)", x.read(-1), NONE);
        check.due("read(4)", x.read(4), NONE);
    }

    private void freshOnce() {
        HeaderSchedule x = twoFrames();
        x.write(0, 3);
        x.start(0);
        check.no("written is not fresh", x.fresh(0));
        check.ticks(x, 1);
        check.yes("fresh(0)", x.fresh(0));
        check.no("not any more", x.fresh(0));
        check.yes("the other signal of it", x.fresh(1));
        check.no("a signal of the other frame", x.fresh(2));
        check.ticks(x, 1, 1);
        check.yes("anew, with the same value", x.fresh(0));
        check.yes("of the other frame", x.fresh(2));
        x.noise(0, 1);
        check.ticks(x, 3);
        check.no("not valid", x.fresh(2));
        check.yes("still from before", x.fresh(3));
        check.no("fresh(-1)", x.fresh(-1));
        check.no("fresh(4)", x.fresh(4));
    }

    private void pendingTillReceived() {
        HeaderSchedule x = twoFrames();
        check.no("made", x.pending(0));
        check.yes("the same value", x.write(0, 100));
        check.yes("before start", x.pending(0));
        check.no("the other frame", x.pending(1));
        check.no("pending(-1)", x.pending(-1));
        check.no("pending(2)", x.pending(2));
        x.start(0);
        x.noise(3, 255);
        check.ticks(x, 3);
        check.yes("not valid", x.pending(0));
        check.ticks(x, 1);
        check.yes("another frame received", x.pending(0));
        check.ticks(x, 1);
        check.no("received", x.pending(0));
        x.write(1, 0);
        x.sleep();
        check.yes("asleep", x.pending(0));
        check.yes("write while asleep", x.write(2, 1));
        check.yes("written while asleep", x.pending(1));
    }

    public static void main(String[] args) {
        SignalsTest test = new SignalsTest();
        test.writeArguments();
        test.refusedWriteKeepsTheWritten();
        test.readWaitsForTheFrame();
        test.freshOnce();
        test.pendingTillReceived();
        test.check.end();
    }
}
