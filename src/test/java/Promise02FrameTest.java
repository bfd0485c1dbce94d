/** Promise 2, sentence by sentence. */
public final class Promise02FrameTest {
    private static final int NONE = HeaderSchedule.NONE;

    private static void number(Check check) {
        HeaderSchedule x = new HeaderSchedule();
        for (int i = 0; i < 8; i++) {
            check.due("frame " + i, x.frame(59 - 7 * i, i % 4, 8 - i, i % 2 == 0), i);
            check.no("a new frame is not pending", x.pending(i));
            x.entry(0, 0, i, 1);
        }
        x.start(0);
        for (int i = 0; i < 8; i++) {
            int header = Scenes.protect(59 - 7 * i);
            check.ticks(x, 1);
            check.due("header of frame " + i, x.bus(0), header);
            check.due("its last data byte", x.bus(8 - i), 255);
            check.due("its checksum", x.bus(9 - i), i % 2 == 0 ? 255 - header : 0);
            check.none("behind it", x.bus(10 - i));
        }
    }

    private static void started(Check check) {
        check.due("before start", Scenes.made().frame(20, 0, 1, true), 4);
        Twins twins = new Twins(check, Scenes::started, Scenes::running, Scenes::resolving, Scenes::asleep);
        twins.none("frame(20, 0, 1, true)", x -> x.frame(20, 0, 1, true));
    }

    private static HeaderSchedule eight() {
        HeaderSchedule x = new HeaderSchedule();
        for (int i = 0; i < 8; i++) {
            x.frame(10 + i, i % 4, 2, false);
        }
        return x;
    }

    private static void eightAreThere(Check check) {
        HeaderSchedule x = new HeaderSchedule();
        for (int i = 0; i < 7; i++) {
            x.frame(10 + i, i % 4, 2, false);
        }
        check.due("the eighth", x.frame(17, 3, 2, false), 7);
        check.none("the ninth", x.frame(18, 0, 1, false));
        check.none("and the next", x.frame(0, 3, 8, true));
        check.no("there is no frame 8", x.entry(0, 0, 8, 1));
        check.yes("there is frame 7", x.entry(0, 0, 7, 1));
        check.due("the refused one bears no identifier", x.event(18, 1, 2, 3, 0), 0);
        new Twins(check, Promise02FrameTest::eight).none("the ninth", y -> y.frame(50, 1, 2, false));
    }

    private static void identifierRange(Check check) {
        Twins twins = new Twins(check, Scenes::fresh, Scenes::laden);
        for (int identifier : new int[] {-1, 60, 61, 63, 64, -60, 1 << 16, Integer.MIN_VALUE, Integer.MAX_VALUE}) {
            twins.none("frame(" + identifier + ", 1, 2, true)", x -> x.frame(identifier, 1, 2, true));
        }
        HeaderSchedule x = new HeaderSchedule();
        check.due("the least", x.frame(0, 1, 2, true), 0);
        check.due("the greatest", x.frame(59, 1, 2, true), 1);
        x.entry(0, 0, 0, 1);
        x.entry(0, 0, 1, 1);
        x.start(0);
        check.ticks(x, 1);
        check.due("header of 0", x.bus(0), 0x80);
        check.ticks(x, 1);
        check.due("header of 59", x.bus(0), 0xFB);
    }

    private static void borneByAFrame(Check check) {
        for (int i = 0; i < 60; i++) {
            HeaderSchedule x = new HeaderSchedule();
            check.due("frame(" + i + ", ..)", x.frame(i, 0, 1, false), 0);
            check.none("once more", x.frame(i, 0, 1, false));
            check.none("once more, otherwise", x.frame(i, 3, 8, true));
            check.due("another", x.frame((i + 1) % 60, 0, 1, false), 1);
            check.none("the first still bears it", x.frame(i, 1, 1, false));
        }
        new Twins(check, Scenes::laden).none("frame(13, ..)", x -> x.frame(13, 0, 1, false));
    }

    private static void borneByAnEventFrame(Check check) {
        new Twins(check, Scenes::laden).none("frame(3, ..)", x -> x.frame(3, 0, 1, false));
        HeaderSchedule x = Scenes.made();
        check.none("the event frame's", x.frame(3, 3, 8, true));
        check.due("beside it", x.frame(4, 3, 8, true), 4);
        check.none("a refused event frame", x.event(30, 2, 4, NONE, 0));
        check.due("does not bear it", x.frame(30, 0, 1, false), 5);
    }

    private static void publisher(Check check) {
        Twins twins = new Twins(check, Scenes::fresh, Scenes::laden);
        for (int node : new int[] {-1, 4, 5, -3, Integer.MIN_VALUE, Integer.MAX_VALUE}) {
            twins.none("frame(40, " + node + ", 2, true)", x -> x.frame(40, node, 2, true));
        }
        HeaderSchedule x = new HeaderSchedule();
        check.none("publisher 4", x.frame(40, 4, 2, true));
        check.none("publisher -1", x.frame(40, -1, 2, true));
        check.due("publisher 0, the identifier is free", x.frame(40, 0, 2, true), 0);
        for (int node = 1; node <= 3; node++) {
            check.due("publisher " + node, x.frame(40 + node, node, 2, true), node);
        }
        check.none("1 is no master's", x.sporadic(0, 1, NONE));
        check.due("1, 2, 3 are of three slaves", x.event(50, 1, 2, 3, 0), 0);
    }

    private static void length(Check check) {
        Twins twins = new Twins(check, Scenes::fresh, Scenes::laden);
        for (int length : new int[] {0, 9, -1, -8, 10, Integer.MIN_VALUE, Integer.MAX_VALUE}) {
            twins.none("frame(40, 1, " + length + ", true)", x -> x.frame(40, 1, length, true));
        }
        HeaderSchedule x = new HeaderSchedule();
        check.none("length 0", x.frame(40, 1, 0, false));
        check.none("length 9", x.frame(40, 1, 9, false));
        check.due("length 1, the identifier is free", x.frame(40, 1, 1, false), 0);
        check.due("length 8", x.frame(41, 1, 8, false), 1);
        x.entry(0, 0, 0, 1);
        x.entry(0, 0, 1, 1);
        x.start(0);
        check.ticks(x, 1);
        check.bytes(x, 0xA8, 255, 0);
        check.ticks(x, 1);
        check.bytes(x, 0xE9, 255, 255, 255, 255, 255, 255, 255, 255, 0);
    }

    public static void main(String[] args) {
        Section section = new Section("Promise 2: frame");
        section.sentence("Makes a frame: its number.", Promise02FrameTest::number);
        section.sentence("NONE when started", Promise02FrameTest::started);
        section.sentence("eight are there", Promise02FrameTest::eightAreThere);
        section.sentence("the identifier is not 0 .. 59", Promise02FrameTest::identifierRange);
        section.sentence("the identifier is -- borne by a frame", Promise02FrameTest::borneByAFrame);
        section.sentence("the identifier is -- borne by -- an event frame", Promise02FrameTest::borneByAnEventFrame);
        section.sentence("the publisher is not 0 .. 3", Promise02FrameTest::publisher);
        section.sentence("the length is not 1 .. 8", Promise02FrameTest::length);
        section.end();
    }
}
