/** Promise 13, sentence by sentence. */
public final class Promise13NoiseTest {
    private static final int NONE = HeaderSchedule.NONE;

    private static void inPlaceOfAnother(Check check) {
        HeaderSchedule x = Scenes.oneFrame(false, 1, 2);
        check.yes("noise(0, 16)", x.noise(0, 16));
        check.yes("noise(1, 32)", x.noise(1, 32));
        check.ticks(x, 3);
        check.bytes(x, 0x08, 1, 2 ^ 32, 252);
        check.ticks(x, 1);
        check.bytes(x, 0x08, 1, 2, 252);
        check.yes("the same twice", x.noise(0, 16));
        check.yes("does not undo itself", x.noise(0, 16));
        check.ticks(x, 3);
        check.bytes(x, 0x08, 17, 2, 252);
    }

    private static void byteK(Check check) {
        for (int length = 1; length <= 8; length++) {
            for (int k = 0; k <= length; k++) {
                HeaderSchedule x = Scenes.oneFrame(true, new int[length]);
                check.yes("noise(" + k + ", 2)", x.noise(k, 2));
                check.ticks(x, 3);
                check.due("the header is as it is", x.bus(0), 0x08);
                for (int i = 0; i <= length; i++) {
                    int clean = i < length ? 0 : 255 - 0x08;
                    check.due("byte " + i + " of " + length, x.bus(1 + i), i == k ? clean ^ 2 : clean);
                }
                check.none("behind the checksum", x.bus(length + 2));
            }
        }
    }

    private static void nextResponse(Check check) {
        HeaderSchedule x = Scenes.started();
        check.yes("before the slot", x.noise(0, 1));
        check.ticks(x, 3);
        check.yes("in a slot that is under way", x.noise(1, 1));
        check.bytes(x, 0x08, 0xFE, 10, 245);
        x.write(1, 5);
        check.ticks(x, 0, 3);
        check.bytes(x, 0x0D, 0xFF, 4, 250);
        check.ticks(x, 2, 0, 1, 0, 1);
        HeaderSchedule early = Scenes.made();
        check.yes("before start", early.noise(2, 255));
        early.start(0);
        check.ticks(early, 3);
        check.bytes(early, 0x08, 0xFF, 10, 245 ^ 255);
        check.ticks(early, 0, 2, 2, 0, 1);
    }

    /** After frame 0 come the group and the event frame, which have no response when none is pending. */
    private static void waitsOverSlotsWithoutOne(Check check) {
        HeaderSchedule x = Scenes.started();
        check.ticks(x, 1, 0);
        check.yes("noise(1, 64)", x.noise(1, 64));
        check.ticks(x, 2);
        check.bytes(x);
        check.ticks(x, 2);
        check.bytes(x, 0x03);
        check.ticks(x, 0, 3);
        check.bytes(x, 0x08, 0xFF, 10 ^ 64, 245);
        check.ticks(x, 0, 2, 2, 0, 1);
    }

    private static void waitsOverSleep(Check check) {
        HeaderSchedule x = Scenes.oneFrame(false, 1);
        x.noise(0, 64);
        x.sleep();
        check.ticks(x, NONE, NONE);
        x.wake();
        check.ticks(x, 3, 1);
        x.sleep();
        check.yes("ordered asleep", x.noise(1, 1));
        x.wake();
        check.ticks(x, 3);
        check.bytes(x, 0x08, 1, 255);
        check.ticks(x, 1);
    }

    private static void turnedRound(Check check) {
        for (int mask = 1; mask <= 255; mask++) {
            HeaderSchedule x = Scenes.oneFrame(false, 0x5A, 0x01);
            check.yes("mask " + mask, x.noise(0, mask));
            check.ticks(x, 3);
            check.due("turned round by " + mask, x.bus(1), 0x5A ^ mask);
            check.due("what was written is as it was", x.read(0), 0x5A);
            check.ticks(x, 1);
            check.due("and is sent anew", x.bus(1), 0x5A);
        }
    }

    private static void noSuchByte(Check check) {
        Twins twins = new Twins(check, Scenes::fresh, Scenes::made, Scenes::laden, Scenes::started, Scenes::running,
            Scenes::resolving, Scenes::asleep);
        for (int k : new int[] {-1, 9, 10, Integer.MIN_VALUE, Integer.MAX_VALUE}) {
            twins.no("noise(" + k + ", 1)", x -> x.noise(k, 1));
        }
        check.yes("the first byte", new HeaderSchedule().noise(0, 1));
        HeaderSchedule x = Scenes.oneFrame(false, 0, 0, 0, 0, 0, 0, 0, 0);
        check.yes("the ninth byte", x.noise(8, 1));
        check.no("no tenth", x.noise(9, 1));
        check.no("none before the first", x.noise(-1, 1));
        check.ticks(x, 3);
        check.due("what was ordered before the refused ones", x.bus(9), 254);
        check.ticks(x, 1);
    }

    private static void noSuchMask(Check check) {
        Twins twins = new Twins(check, Scenes::fresh, Scenes::made, Scenes::laden, Scenes::started, Scenes::running,
            Scenes::resolving, Scenes::asleep);
        for (int mask : new int[] {0, 256, -1, 257, 512, Integer.MIN_VALUE, Integer.MAX_VALUE}) {
            twins.no("noise(1, " + mask + ")", x -> x.noise(1, mask));
        }
        HeaderSchedule x = Scenes.oneFrame(false, 0);
        check.yes("the greatest", x.noise(0, 255));
        check.no("too great", x.noise(0, 256));
        check.no("too small", x.noise(1, 0));
        check.ticks(x, 3);
        check.bytes(x, 0x08, 255, 255);
        check.yes("the least", x.noise(0, 1));
        check.ticks(x, 3, 1);
    }

    public static void main(String[] args) {
        Section section = new Section("Promise 13: noise");
        section.sentence("Orders noise, in place of what was ordered before", Promise13NoiseTest::inPlaceOfAnother);
        section.sentence("in byte k (from 0, the checksum counts as the last one)", Promise13NoiseTest::byteK);
        section.sentence("of the next response", Promise13NoiseTest::nextResponse);
        section.sentence("(it waits over slots without one", Promise13NoiseTest::waitsOverSlotsWithoutOne);
        section.sentence("it waits over -- and sleep)", Promise13NoiseTest::waitsOverSleep);
        section.sentence("the bits of mask are turned round", Promise13NoiseTest::turnedRound);
        section.sentence("false when k is not 0 .. 8", Promise13NoiseTest::noSuchByte);
        section.sentence("mask is not 1 .. 255", Promise13NoiseTest::noSuchMask);
        section.end();
    }
}
