/** Promise 9, sentence by sentence. */
public final class Promise09ReadTest {
    private static void receivedValue(Check check) {
        HeaderSchedule x = Scenes.oneFrame(false, 1, 2);
        x.write(0, 50);
        check.ticks(x, 1);
        check.due("received", x.read(0), 50);
        check.due("its neighbour", x.read(1), 2);
        x.write(0, 60);
        check.due("written is not received", x.read(0), 50);
        x.noise(1, 8);
        check.ticks(x, 3);
        check.due("nor is what was not valid", x.read(0), 50);
        check.due("nor its neighbour", x.read(1), 2);
        check.ticks(x, 1);
        check.due("received", x.read(0), 60);
        check.due("asked twice", x.read(0), 60);
        x.sleep();
        check.due("asleep", x.read(0), 60);
    }

    private static void madeWith(Check check) {
        HeaderSchedule x = Scenes.made();
        for (int i = 0; i < 4; i++) {
            check.due("before start", x.read(i), 10 + i);
            x.write(i, 100 + i);
            check.due("written", x.read(i), 10 + i);
        }
        x.start(0);
        check.due("after start", x.read(0), 10);
        check.ticks(x, 1);
        check.due("frame 0 was received", x.read(0), 100);
        for (int i = 1; i < 4; i++) {
            check.due("frame " + i + " was not", x.read(i), 10 + i);
        }
    }

    private static void noSuchSignal(Check check) {
        Twins twins = new Twins(check, Scenes::laden, Scenes::running, Scenes::resolving, Scenes::asleep);
        for (int signal : new int[] {-1, 4, 5, 16, Integer.MIN_VALUE, Integer.MAX_VALUE}) {
            twins.none("read(" + signal + ")", x -> x.read(signal));
        }
        HeaderSchedule x = new HeaderSchedule();
        x.frame(8, 0, 8, false);
        check.none("no signal yet", x.read(0));
        for (int i = 0; i < 16; i++) {
            x.signal(0, 4 * i, 4, i);
            check.due("the last", x.read(i), i);
            check.none("behind the last", x.read(i + 1));
        }
        check.due("the first", x.read(0), 0);
        check.none("before the first", x.read(-1));
    }

    public static void main(String[] args) {
        Section section = new Section("Promise 9: read");
        section.sentence("The received value of a signal", Promise09ReadTest::receivedValue);
        section.sentence("(the one that it was made with, till its frame is received)", Promise09ReadTest::madeWith);
        section.sentence("NONE when there is no such signal.", Promise09ReadTest::noSuchSignal);
        section.end();
    }
}
