/** Promise 3, sentence by sentence. */
public final class Promise03SignalTest {
    private static final int NONE = HeaderSchedule.NONE;

    private static HeaderSchedule oneFrame(int length) {
        HeaderSchedule x = new HeaderSchedule();
        x.frame(8, 1, length, false);
        x.entry(0, 0, 0, 1);
        return x;
    }

    private static void valuesAndNumber(Check check) {
        HeaderSchedule x = oneFrame(2);
        check.due("the first", x.signal(0, 4, 8, 0xA5), 0);
        check.due("the second", x.signal(0, 0, 4, 0x3), 1);
        check.due("received", x.read(0), 0xA5);
        check.due("received", x.read(1), 0x3);
        check.no("not pending by that", x.pending(0));
        check.no("not fresh by that", x.fresh(0));
        x.start(0);
        check.ticks(x, 1);
        check.bytes(x, 0x08, 0x53, 0xFA, 255 - (0x53 + 0xFA - 255));
        check.due("what was written is received", x.read(0), 0xA5);
        check.yes("fresh", x.fresh(0));
    }

    private static void started(Check check) {
        check.due("before start", Scenes.made().signal(0, 0, 1, 0), 4);
        Twins twins = new Twins(check, Scenes::started, Scenes::running, Scenes::resolving, Scenes::asleep);
        twins.none("signal(0, 0, 1, 0)", x -> x.signal(0, 0, 1, 0));
    }

    private static HeaderSchedule sixteen() {
        HeaderSchedule x = oneFrame(8);
        x.frame(9, 2, 8, false);
        for (int i = 0; i < 16; i++) {
            x.signal(i % 2, 2 * i, 2, i % 4);
        }
        return x;
    }

    private static void sixteenAreThere(Check check) {
        HeaderSchedule x = oneFrame(8);
        for (int i = 0; i < 15; i++) {
            x.signal(0, i, 1, 0);
        }
        check.due("the sixteenth", x.signal(0, 15, 1, 1), 15);
        check.none("the seventeenth", x.signal(0, 16, 1, 0));
        check.due("read(15)", x.read(15), 1);
        check.none("read(16)", x.read(16));
        check.no("write(16, 0)", x.write(16, 0));
        x.start(0);
        check.ticks(x, 1);
        check.due("the bit of the refused one is 1", x.bus(3), 255);
        Twins twins = new Twins(check, Promise03SignalTest::sixteen);
        twins.none("the seventeenth", y -> y.signal(0, 40, 1, 0));
        twins.none("the seventeenth, of the other frame", y -> y.signal(1, 63, 1, 1));
    }

    private static void noSuchFrame(Check check) {
        Twins twins = new Twins(check, Scenes::fresh, Scenes::laden);
        for (int frame : new int[] {-1, 4, 5, 8, Integer.MIN_VALUE, Integer.MAX_VALUE}) {
            twins.none("signal(" + frame + ", 0, 1, 0)", x -> x.signal(frame, 0, 1, 0));
        }
        HeaderSchedule x = Scenes.made();
        check.due("the first frame", x.signal(0, 0, 1, 0), 4);
        check.none("frame 4 is not there yet", x.signal(4, 0, 1, 0));
        x.frame(50, 3, 1, false);
        check.due("the last frame", x.signal(4, 0, 1, 0), 5);
    }

    private static void width(Check check) {
        Twins twins = new Twins(check, () -> oneFrame(8), Scenes::laden);
        for (int width : new int[] {0, 17, -1, -16, 32, 64, Integer.MIN_VALUE, Integer.MAX_VALUE}) {
            twins.none("signal(0, 0, " + width + ", 0)", x -> x.signal(0, 0, width, 0));
            twins.none("signal(0, 4, " + width + ", 0)", x -> x.signal(0, 4, width, 0));
        }
        for (int width = 1; width <= 16; width++) {
            check.due("width " + width, oneFrame(8).signal(0, 3, width, 0), 0);
        }
        HeaderSchedule x = oneFrame(8);
        check.none("width 17", x.signal(0, 16, 17, 0));
        check.none("width 0", x.signal(0, 16, 0, 0));
        check.due("width 16, the bits are free", x.signal(0, 16, 16, 0), 0);
        check.due("width 1 behind it", x.signal(0, 32, 1, 0), 1);
    }

    private static void bitsInTheFrame(Check check) {
        for (int length = 1; length <= 8; length++) {
            int bits = 8 * length;
            for (int width = 1; width <= Math.min(16, bits); width++) {
                check.due("the first bits of " + bits, oneFrame(length).signal(0, 0, width, 0), 0);
                check.due("the last bits of " + bits, oneFrame(length).signal(0, bits - width, width, 0), 0);
                check.none("one too far, of " + bits, oneFrame(length).signal(0, bits - width + 1, width, 0));
                check.none("one too low, of " + bits, oneFrame(length).signal(0, -1, width, 0));
                check.none("all before", oneFrame(length).signal(0, -width, width, 0));
                check.none("all behind", oneFrame(length).signal(0, bits, width, 0));
            }
        }
        check.none("nine bits in a byte", oneFrame(1).signal(0, 0, 9, 0));
        Twins twins = new Twins(check, () -> oneFrame(2), Scenes::laden);
        for (int offset : new int[] {-1, 16, 13, 64, Integer.MIN_VALUE, Integer.MAX_VALUE, Integer.MAX_VALUE - 3}) {
            twins.none("signal(0, " + offset + ", 4, 0)", x -> x.signal(0, offset, 4, 0));
        }
        HeaderSchedule x = oneFrame(2);
        check.none("refused", x.signal(0, 13, 4, 0));
        check.due("its bits are free", x.signal(0, 13, 3, 0), 0);
    }

    private static HeaderSchedule associated(int length) {
        HeaderSchedule x = new HeaderSchedule();
        x.frame(1, 1, length, false);
        x.frame(2, 2, length, false);
        x.event(3, 0, 1, NONE, 0);
        return x;
    }

    private static void fromBitEightOn(Check check) {
        for (int offset = 0; offset < 8; offset++) {
            check.none("bit " + offset, associated(3).signal(0, offset, 1, 0));
            check.none("up to bit 8", associated(3).signal(1, offset, 9 - offset, 0));
        }
        check.due("bit 8", associated(3).signal(0, 8, 1, 0), 0);
        check.due("bits 8 .. 23", associated(3).signal(1, 8, 16, 0), 0);
        check.none("bits 7 .. 22", associated(3).signal(1, 7, 16, 0));
        check.due("bit 23", associated(3).signal(0, 23, 1, 0), 0);
        check.none("bit 24", associated(3).signal(0, 24, 1, 0));
        for (int offset = 0; offset <= 8; offset++) {
            check.none("a frame of one byte, bit " + offset, associated(1).signal(0, offset, 1, 0));
        }
        HeaderSchedule x = Scenes.made();
        check.due("a frame that is not associated", x.signal(1, 0, 1, 0), 4);
        new Twins(check, Scenes::laden).none("signal(3, 7, 1, 0)", y -> y.signal(3, 7, 1, 0));
        new Twins(check, () -> associated(2)).none("signal(1, 7, 2, 0)", y -> y.signal(1, 7, 2, 0));
    }

    /** All places of a second signal beside a first one, in a frame of 64 bits. */
    private static void bitInCommon(Check check) {
        int[][] firsts = {{0, 1}, {7, 2}, {8, 8}, {20, 13}, {31, 2}, {32, 1}, {40, 16}, {48, 16}, {63, 1}};
        for (int[] first : firsts) {
            for (int width : new int[] {1, 2, 8, 16}) {
                for (int offset = 0; offset + width <= 64; offset++) {
                    HeaderSchedule x = oneFrame(8);
                    x.signal(0, first[0], first[1], 0);
                    boolean apart = offset + width <= first[0] || offset >= first[0] + first[1];
                    check.due(width + " bits from " + offset + " on beside " + first[1] + " from " + first[0] + " on",
                        x.signal(0, offset, width, 0), apart ? 1 : NONE);
                }
            }
        }
    }

    private static void bitInCommonRefused(Check check) {
        Twins twins = new Twins(check, Scenes::laden);
        twins.none("the same bits", x -> x.signal(0, 8, 8, 10));
        twins.none("its first bit", x -> x.signal(0, 4, 5, 0));
        twins.none("its last bit", x -> x.signal(0, 15, 1, 0));
        HeaderSchedule x = Scenes.made();
        check.none("refused", x.signal(0, 4, 5, 0));
        check.due("beside it, the bits are free", x.signal(0, 4, 4, 0), 4);
        check.none("the first of two", x.signal(0, 15, 1, 0));
        check.none("the second of two", x.signal(0, 3, 2, 0));
        check.due("beside both", x.signal(0, 0, 4, 0), 5);
        check.due("the same bits of another frame", oneOfTwo().signal(1, 8, 8, 0), 1);
        check.none("of the same", oneOfTwo().signal(0, 8, 8, 0));
    }

    /** Signals that were there before a frame was associated are there afterwards. */
    private static void bitInCommonWithAnEarlierOne(Check check) {
        HeaderSchedule x = new HeaderSchedule();
        x.frame(1, 1, 2, false);
        x.frame(2, 2, 2, false);
        x.signal(0, 8, 4, 0);
        x.signal(1, 12, 4, 0);
        x.event(3, 0, 1, NONE, 0);
        check.none("its last bit", x.signal(0, 11, 2, 0));
        check.none("its first bit", x.signal(1, 11, 2, 0));
        check.due("behind it", x.signal(0, 12, 4, 0), 2);
        check.due("before it", x.signal(1, 8, 4, 0), 3);
    }

    private static HeaderSchedule oneOfTwo() {
        HeaderSchedule x = oneFrame(2);
        x.frame(9, 1, 2, false);
        x.signal(0, 8, 8, 0);
        return x;
    }

    private static void value(Check check) {
        for (int width = 1; width <= 16; width++) {
            int most = (1 << width) - 1;
            HeaderSchedule x = oneFrame(8);
            check.none("-1 in " + width + " bits", x.signal(0, 0, width, -1));
            check.none(most + 1 + " in " + width + " bits", x.signal(0, 0, width, most + 1));
            check.due(most + " in " + width + " bits, which are free", x.signal(0, 0, width, most), 0);
            check.due("0 in " + width + " bits", x.signal(0, 16, width, 0), 1);
            check.due("the most", x.read(0), most);
            check.due("the least", x.read(1), 0);
        }
        Twins twins = new Twins(check, () -> oneFrame(8), Scenes::laden);
        for (int value : new int[] {-1, 16, 17, Integer.MIN_VALUE, Integer.MAX_VALUE}) {
            twins.none("signal(0, 0, 4, " + value + ")", x -> x.signal(0, 0, 4, value));
        }
    }

    public static void main(String[] args) {
        Section section = new Section("Promise 3: signal");
        section.sentence("Makes a signal with these written and received values: its number.",
            Promise03SignalTest::valuesAndNumber);
        section.sentence("NONE when started", Promise03SignalTest::started);
        section.sentence("sixteen are there", Promise03SignalTest::sixteenAreThere);
        section.sentence("there is no such frame", Promise03SignalTest::noSuchFrame);
        section.sentence("the width is not 1 .. 16", Promise03SignalTest::width);
        section.sentence("not all its bits lie in the frame", Promise03SignalTest::bitsInTheFrame);
        section.sentence("(from bit 8 on when the frame is associated)", Promise03SignalTest::fromBitEightOn);
        section.sentence("it has a bit in common with another signal", Promise03SignalTest::bitInCommon);
        section.sentence("it has a bit in common with another signal of the frame",
            Promise03SignalTest::bitInCommonRefused);
        section.sentence("when the frame is associated), it has a bit in common with another signal of the frame",
            Promise03SignalTest::bitInCommonWithAnEarlierOne);
        section.sentence("the value is not 0 .. 2^width - 1", Promise03SignalTest::value);
        section.end();
    }
}
