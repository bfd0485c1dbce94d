/** Promises 13, 15, 16 and the slots of frames and sporadic groups: the bytes on the bus, noise, and the counts. */
public final class BusTest {
    private static final int NONE = HeaderSchedule.NONE;
    private final Check check = new Check();

    private void protectedIdentifiers() {
        for (int i = 0; i < 60; i++) {
            HeaderSchedule x = new HeaderSchedule();
            x.frame(i, 1, 1, false);
            x.entry(0, 0, 0, 1);
            x.start(0);
            check.ticks(x, 1);
            check.bytes(x, Scenes.protect(i), 255, 0);
        }
    }

    private void checksums() {
        HeaderSchedule zero = Scenes.oneFrame(false, 0);
        check.ticks(zero, 1);
        check.bytes(zero, 8, 0, 255);
        HeaderSchedule full = Scenes.oneFrame(false, 255, 0);
        check.ticks(full, 1);
        check.bytes(full, 8, 255, 0, 0);
        HeaderSchedule over = Scenes.oneFrame(false, 255, 1);
        check.ticks(over, 1);
        check.bytes(over, 8, 255, 1, 254);
        HeaderSchedule enhanced = Scenes.oneFrame(true, 0, 0);
        check.ticks(enhanced, 1);
        check.bytes(enhanced, 8, 0, 0, 247);
        HeaderSchedule just = Scenes.oneFrame(true, 247);
        check.ticks(just, 1);
        check.bytes(just, 8, 247, 0);
        HeaderSchedule more = Scenes.oneFrame(true, 248);
        check.ticks(more, 1);
        check.bytes(more, 8, 248, 254);
        HeaderSchedule eight = Scenes.oneFrame(true, 255, 255, 255, 255, 255, 255, 255, 254);
        check.ticks(eight, 1);
        check.bytes(eight, 8, 255, 255, 255, 255, 255, 255, 255, 254, 248);
    }

    private void bitsInBytes() {
        HeaderSchedule x = new HeaderSchedule();
        x.frame(8, 0, 4, false);
        x.signal(0, 5, 13, 0);
        x.signal(0, 20, 3, 5);
        x.entry(0, 0, 0, 1);
        x.start(0);
        x.write(0, 0x1235);
        check.ticks(x, 1);
        // 0x1235 from bit 5 on: bits 0 .. 2 at 5 .. 7, bits 3 .. 10 in byte 1, bits 11, 12 at 16, 17.
        check.bytes(x, 8, 0xBF, 0x46, 0xDE, 0xFF, 255 - (0xBF + 0x46 + 0xDE + 0xFF - 2 * 255));
        check.due("read(0)", x.read(0), 0x1235);
        check.due("read(1)", x.read(1), 5);
    }

    private void busArguments() {
        HeaderSchedule x = Scenes.oneFrame(false, 1, 2, 3, 4, 5, 6, 7, 8);
        check.due("no slot yet", x.bus(0), NONE);
        check.ticks(x, 1);
        check.bytes(x, 8, 1, 2, 3, 4, 5, 6, 7, 8, 219);
        check.due("bus(-1)", x.bus(-1), NONE);
        check.due("bus(10)", x.bus(10), NONE);
        check.due("greatest", x.bus(Integer.MAX_VALUE), NONE);
        check.due("least", x.bus(Integer.MIN_VALUE), NONE);
        x.write(0, 9);
        check.due("not before the next slot", x.bus(1), 1);
        x.sleep();
        check.due("while asleep", x.bus(9), 219);
    }

    private void shorterSlotAfterLonger() {
        HeaderSchedule x = new HeaderSchedule();
        x.frame(8, 0, 8, false);
        x.frame(13, 0, 1, false);
        x.frame(17, 0, 1, false);
        x.signal(2, 0, 1, 0);
        x.sporadic(1, 2, NONE);
        x.entry(0, 0, 0, 1);
        x.entry(0, 0, 1, 1);
        x.entry(0, 1, 0, 1);
        x.start(0);
        check.ticks(x, 1);
        check.due("the last byte", x.bus(9), 0);
        check.ticks(x, 1);
        check.bytes(x, 13, 255, 0);
        check.ticks(x, 2);
        check.bytes(x);
    }

    private void noiseArguments() {
        HeaderSchedule x = Scenes.oneFrame(false, 1);
        check.no("byte -1", x.noise(-1, 1));
        check.no("byte 9", x.noise(9, 1));
        check.no("mask 0", x.noise(0, 0));
        check.no("mask 256", x.noise(0, 256));
        check.no("mask -1", x.noise(0, -1));
        check.ticks(x, 1);
        check.yes("ordered", x.noise(0, 16));
        check.no("refused: the one before stays", x.noise(1, 0));
        check.ticks(x, 3);
        check.bytes(x, 8, 17, 254);
        check.ticks(x, 1);
        check.yes("ordered", x.noise(0, 16));
        check.yes("in its place", x.noise(1, 3));
        check.ticks(x, 3, 1);
        HeaderSchedule before = new HeaderSchedule();
        check.yes("before start", before.noise(8, 255));
    }

    private void noiseInEachByte() {
        for (int k = 0; k <= 8; k++) {
            HeaderSchedule x = Scenes.oneFrame(true, 1, 2, 3, 4, 5, 6, 7, 8);
            int clean = new int[] {1, 2, 3, 4, 5, 6, 7, 8, 211}[k];
            x.write(0, 1);
            check.yes("noise in byte " + k, x.noise(k, 0x81));
            check.ticks(x, 3);
            check.due("byte " + k, x.bus(k + 1), clean ^ 0x81);
            check.due("header", x.bus(0), 8);
            check.yes("still pending", x.pending(0));
            check.ticks(x, 1);
            check.due("clean again", x.bus(k + 1), clean);
        }
    }

    private void noiseThatIsNotSeen() {
        HeaderSchedule x = Scenes.oneFrame(false, 0, 3);
        x.write(0, 0);
        x.noise(0, 255);
        check.ticks(x, 1);
        check.due("received as 255", x.read(0), 255);
        check.no("received", x.pending(0));
        check.ticks(x, 1);
        check.due("written is still 0", x.read(0), 0);
        HeaderSchedule alone = Scenes.oneFrame(false, 0);
        alone.noise(0, 255);
        check.ticks(alone, 3);
        HeaderSchedule none = Scenes.oneFrame(false, 0);
        none.noise(2, 255);
        check.ticks(none, 1);
        check.bytes(none, 8, 0, 255);
        check.ticks(none, 1);
        HeaderSchedule far = Scenes.oneFrame(false, 1, 2, 3);
        far.noise(4, 1);
        check.ticks(far, 1, 1);
        far.noise(3, 1);
        check.ticks(far, 3);
    }

    /** A group of frames 0, 1, 2 of the master, of which the third one goes first. */
    private static HeaderSchedule oneGroup() {
        HeaderSchedule x = new HeaderSchedule();
        x.frame(8, 0, 1, false);
        x.frame(13, 0, 1, true);
        x.frame(17, 0, 2, false);
        x.signal(0, 0, 8, 1);
        x.signal(1, 0, 8, 2);
        x.signal(2, 0, 16, 3);
        x.sporadic(2, 0, 1);
        x.entry(0, 1, 0, 1);
        x.start(0);
        return x;
    }

    private void sporadicSlots() {
        HeaderSchedule x = oneGroup();
        check.ticks(x, 2);
        check.bytes(x);
        x.write(1, 2);
        x.write(0, 4);
        check.ticks(x, 1);
        check.bytes(x, 8, 4, 251);
        x.write(2, 0x0203);
        check.ticks(x, 1);
        check.bytes(x, 17, 3, 2, 250);
        x.noise(0, 1);
        check.ticks(x, 3);
        check.bytes(x, 13, 3, 240);
        check.yes("still pending", x.pending(1));
        check.ticks(x, 1);
        check.bytes(x, 13, 2, 240);
        check.yes("fresh", x.fresh(1));
        check.ticks(x, 2);
        check.bytes(x);
    }

    private void noiseWaitsForAResponse() {
        HeaderSchedule x = oneGroup();
        x.noise(0, 4);
        check.ticks(x, 2, 2);
        x.sleep();
        check.ticks(x, NONE);
        x.wake();
        check.ticks(x, 2);
        x.write(0, 1);
        check.ticks(x, 3);
        check.bytes(x, 8, 5, 254);
        check.ticks(x, 1);
    }

    private void counts() {
        HeaderSchedule x = oneGroup();
        check.due("count(0)", x.count(0), NONE);
        check.due("count(5)", x.count(5), NONE);
        check.due("count(-1)", x.count(-1), NONE);
        check.ticks(x, 2, 2, 2);
        x.write(0, 0);
        check.ticks(x, 1);
        x.write(0, 1);
        x.noise(1, 1);
        check.ticks(x, 3);
        x.sleep();
        check.ticks(x, NONE, NONE);
        check.due("count(1)", x.count(1), 1);
        check.due("count(2)", x.count(2), 3);
        check.due("count(3)", x.count(3), 1);
        check.due("count(4)", x.count(4), 0);
    }

    public static void main(String[] args) {
        BusTest test = new BusTest();
        test.protectedIdentifiers();
        test.checksums();
        test.bitsInBytes();
        test.busArguments();
        test.shorterSlotAfterLonger();
        test.noiseArguments();
        test.noiseInEachByte();
        test.noiseThatIsNotSeen();
        test.sporadicSlots();
        test.noiseWaitsForAResponse();
        test.counts();
        test.check.end();
    }
}
