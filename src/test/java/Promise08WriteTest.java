/** Promise 8, sentence by sentence. */
public final class Promise08WriteTest {
    private static void writes(Check check) {
        HeaderSchedule x = Scenes.started();
        check.no("not pending before", x.pending(0));
        check.yes("write(0, 200)", x.write(0, 200));
        check.yes("its frame is pending", x.pending(0));
        check.no("the other frames are not", x.pending(1) || x.pending(2) || x.pending(3));
        check.due("not received yet", x.read(0), 10);
        check.ticks(x, 1);
        check.bytes(x, 0x08, 0xFF, 200, 55);
        check.due("received", x.read(0), 200);
    }

    private static void theSameValue(Check check) {
        HeaderSchedule x = Scenes.started();
        check.yes("the value it was made with", x.write(1, 11));
        check.yes("pending by that", x.pending(1));
        x.write(0, 44);
        check.ticks(x, 1);
        check.no("received", x.pending(0));
        check.yes("the value that was written before", x.write(0, 44));
        check.yes("pending again", x.pending(0));
        check.yes("and once more", x.write(0, 44));
        check.yes("still pending", x.pending(0));
    }

    private static void noSuchSignal(Check check) {
        Twins twins = new Twins(check, Scenes::laden, Scenes::running, Scenes::resolving, Scenes::asleep);
        for (int signal : new int[] {-1, 4, 5, 16, Integer.MIN_VALUE, Integer.MAX_VALUE}) {
            twins.no("write(" + signal + ", 0)", x -> x.write(signal, 0));
        }
        check.no("write(0, 0) in a new object", new HeaderSchedule().write(0, 0));
        HeaderSchedule x = Scenes.made();
        check.yes("the first", x.write(0, 1));
        check.yes("the last", x.write(3, 1));
        check.no("behind the last", x.write(4, 1));
        check.no("before the first", x.write(-1, 1));
        check.no("frame 1 is not pending", x.pending(1));
        check.no("frame 2 is not pending", x.pending(2));
    }

    private static HeaderSchedule ofWidth(int width) {
        HeaderSchedule x = new HeaderSchedule();
        x.frame(8, 0, 8, false);
        x.signal(0, 13, width, 1);
        x.entry(0, 0, 0, 1);
        x.start(0);
        return x;
    }

    private static void value(Check check) {
        for (int width = 1; width <= 16; width++) {
            int most = (1 << width) - 1;
            HeaderSchedule x = ofWidth(width);
            check.no("-1 in " + width + " bits", x.write(0, -1));
            check.no(most + 1 + " in " + width + " bits", x.write(0, most + 1));
            check.no("refused: not pending", x.pending(0));
            check.ticks(x, 1);
            check.due("refused: as it was made", x.read(0), 1);
            check.yes(most + " in " + width + " bits", x.write(0, most));
            check.ticks(x, 1);
            check.due("read(0)", x.read(0), most);
            check.yes("0 in " + width + " bits", x.write(0, 0));
            check.no("then one too many", x.write(0, most + 1));
            check.yes("still pending", x.pending(0));
            check.ticks(x, 1);
            check.due("read(0)", x.read(0), 0);
        }
        Twins twins = new Twins(check, Scenes::laden, Scenes::running, Scenes::resolving, Scenes::asleep);
        for (int value : new int[] {-1, 256, 257, 1 << 16, Integer.MIN_VALUE, Integer.MAX_VALUE}) {
            for (int signal = 0; signal < 4; signal++) {
                int one = signal;
                twins.no("write(" + signal + ", " + value + ")", x -> x.write(one, value));
            }
        }
    }

    private static void beforeStart(Check check) {
        HeaderSchedule x = Scenes.made();
        check.yes("write(0, 77)", x.write(0, 77));
        check.yes("write(2, 78)", x.write(2, 78));
        check.yes("pending(0)", x.pending(0));
        check.due("not received", x.read(0), 10);
        check.yes("start(0)", x.start(0));
        check.yes("pending still", x.pending(0));
        check.ticks(x, 1, 0, 2);
        check.due("read(0)", x.read(0), 77);
        check.ticks(x, 1);
        check.due("read(2)", x.read(2), 78);
    }

    public static void main(String[] args) {
        Section section = new Section("Promise 8: write");
        section.sentence("Writes a signal: true (its frame is pending then", Promise08WriteTest::writes);
        section.sentence("also when the value is the same", Promise08WriteTest::theSameValue);
        section.sentence("False when there is no such signal", Promise08WriteTest::noSuchSignal);
        section.sentence("the value is not 0 .. 2^width - 1", Promise08WriteTest::value);
        section.sentence("It can be written before start() too.", Promise08WriteTest::beforeStart);
        section.end();
    }
}
