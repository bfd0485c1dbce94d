/** The slots of event frames: who responds, what the bus makes of several, and what is valid then. */
public final class EventTest {
    private static final int NONE = HeaderSchedule.NONE;
    private final Check check = new Check();

    /** Event frame 0 with identifier 3 (protected: 3), of frames with these identifiers and of 2 bytes. */
    private static HeaderSchedule three(boolean enhanced, int first, int second, int third) {
        return Scenes.threeSlaves(3, enhanced, 2, first, second, third);
    }

    private void nobodyResponds() {
        HeaderSchedule x = three(false, 1, 2, 4);
        check.ticks(x, 2, 2);
        check.bytes(x, 3);
        check.due("no resolving run", x.position(), 1);
        check.due("count(2)", x.count(2), 2);
    }

    private void oneResponds() {
        HeaderSchedule plain = three(false, 1, 2, 4);
        plain.write(1, 77);
        check.ticks(plain, 1);
        check.bytes(plain, 3, 0x42, 77, 255 - 0x42 - 77);
        check.due("read(1)", plain.read(1), 77);
        check.yes("fresh(1)", plain.fresh(1));
        check.no("fresh(0)", plain.fresh(0));
        check.no("not pending", plain.pending(1));
        check.ticks(plain, 2);

        HeaderSchedule enhanced = three(true, 1, 2, 4);
        enhanced.write(2, 1);
        check.ticks(enhanced, 1);
        check.bytes(enhanced, 3, 0xC4, 1, 255 - 0xC4 - 1 - 3);
        check.due("read(2)", enhanced.read(2), 1);
    }

    private void allCollide() {
        HeaderSchedule x = three(true, 1, 2, 4);
        x.write(0, 20);
        x.write(1, 21);
        x.write(2, 22);
        check.ticks(x, 4);
        check.bytes(x, 3, 0xC1 & 0x42 & 0xC4);
        for (int i = 0; i < 3; i++) {
            check.yes("still pending", x.pending(i));
            check.due("not received", x.read(i), 10 + i);
            check.no("not fresh", x.fresh(i));
        }
        check.ticks(x, 1);
        check.bytes(x, 0xC1, 0xC1, 20, 255 - (0xC1 + 0xC1 + 20 - 255));
        check.ticks(x, 1, 1);
        check.due("read(2)", x.read(2), 22);
        check.ticks(x, 2);
        check.due("count(4)", x.count(4), 1);
        check.due("count(3)", x.count(3), 0);
    }

    /** Of 8 (0x08) and 10 (0xCA) the first has a 0 wherever the second has one. */
    private void oneOfTwoGoesOn() {
        HeaderSchedule x = three(true, 10, 8, 4);
        x.write(0, 50);
        x.write(1, 60);
        check.ticks(x, 1);
        check.bytes(x, 3, 0x08, 60, 255 - 8 - 60 - 3);
        check.due("read(1)", x.read(1), 60);
        check.no("received", x.pending(1));
        check.yes("the other still waits", x.pending(0));
        check.due("read(0)", x.read(0), 10);
        check.ticks(x, 1);
        // 0xCA + 50 + 3 is 255, the sum whose checksum is 0.
        check.bytes(x, 3, 0xCA, 50, 0);
        check.due("read(0)", x.read(0), 50);
        check.due("count(4)", x.count(4), 0);
    }

    /** 0x49 (9) and 0x8E (14) make 0x08 together, which is 8's own. */
    private void theirByteIsThatOfAThird() {
        HeaderSchedule x = three(false, 8, 9, 14);
        x.write(1, 1);
        x.write(2, 2);
        check.ticks(x, 4);
        check.bytes(x, 3, 0x08);
        check.yes("pending", x.pending(1) && x.pending(2));
        check.no("fresh(0)", x.fresh(0));
        check.ticks(x, 1);
        check.due("resolving", x.position(), 64 + 16 + 1);

        HeaderSchedule y = three(false, 8, 9, 14);
        for (int i = 0; i < 3; i++) {
            y.write(i, i);
        }
        check.ticks(y, 1, 4);
        check.due("read(0)", y.read(0), 0);
        check.due("read(1)", y.read(1), 11);
    }

    private void noiseInTheResponse() {
        HeaderSchedule x = three(false, 1, 2, 4);
        x.write(0, 5);
        x.noise(1, 4);
        check.ticks(x, 4);
        check.bytes(x, 3, 0xC1, 1, 255 - 0xC1 - 5);
        check.yes("pending", x.pending(0));
        check.ticks(x, 1);
        check.due("resolving", x.position(), 64 + 16 + 1);
        check.due("read(0)", x.read(0), 5);
        check.due("count(4)", x.count(4), 1);
    }

    private void noiseInByteZero() {
        HeaderSchedule x = three(false, 1, 2, 4);
        x.write(0, 5);
        x.noise(0, 0xC1 ^ 0xC4);
        check.ticks(x, 4);
        check.bytes(x, 3, 0xC4, 5, 255 - 0xC1 - 5);
        check.no("nothing is fresh", x.fresh(0) || x.fresh(2));
        HeaderSchedule unknown = three(false, 1, 2, 4);
        unknown.write(0, 5);
        unknown.noise(0, 255);
        check.ticks(unknown, 4);
    }

    /** The senders do not see the noise: it neither ends a response nor lets one go on. */
    private void noiseIsNotSeenBySenders() {
        HeaderSchedule alone = three(false, 1, 2, 4);
        alone.write(0, 5);
        alone.noise(0, 128);
        check.ticks(alone, 4);
        check.bytes(alone, 3, 0x41, 5, 255 - 0xC1 - 5);

        HeaderSchedule two = three(false, 1, 2, 4);
        two.write(0, 5);
        two.write(1, 5);
        two.noise(0, 0x40 ^ 0xC1);
        check.ticks(two, 4);
        check.bytes(two, 3, 0xC1);

        HeaderSchedule far = three(false, 1, 2, 4);
        far.write(0, 5);
        far.write(1, 5);
        far.noise(1, 1);
        check.ticks(far, 4);
        check.bytes(far, 3, 0x40);
        check.ticks(far, 1, 1, 1);
    }

    private void noiseWaitsOverASilentEvent() {
        HeaderSchedule x = three(false, 1, 2, 4);
        x.noise(2, 1);
        check.ticks(x, 2, 2);
        x.write(2, 0);
        check.ticks(x, 4);
    }

    private void ownSlotOfAnAssociatedFrame() {
        HeaderSchedule x = three(true, 1, 2, 4);
        x.request(1);
        check.ticks(x, 1);
        check.bytes(x, 0xC1, 0xC1, 10, 255 - (0xC1 + 0xC1 + 10 - 255));
        x.write(1, 4);
        x.noise(0, 1);
        check.ticks(x, 3);
        check.yes("pending", x.pending(1));
        check.due("no resolving run", x.position(), 16 + 2);
        check.ticks(x, 1, 1, 1);
        check.no("received in its own slot", x.pending(1));
    }

    private void twoEventFrames() {
        HeaderSchedule x = new HeaderSchedule();
        for (int i = 0; i < 4; i++) {
            x.frame(20 + i, 1 + i % 2, 2, false);
            x.signal(i, 8, 8, i);
        }
        x.event(3, 0, 1, NONE, 1);
        x.event(6, 2, 3, NONE, 2);
        x.entry(0, 2, 1, 1);
        x.entry(0, 2, 0, 1);
        x.entry(1, 0, 0, 1);
        x.entry(1, 0, 1, 1);
        x.entry(2, 0, 2, 1);
        x.entry(2, 0, 3, 1);
        x.start(0);
        x.write(1, 9);
        check.ticks(x, 2);
        check.bytes(x, 6);
        check.ticks(x, 1);
        check.bytes(x, 3, 0x55, 9, 255 - 0x55 - 9);
        x.write(2, 8);
        x.write(3, 7);
        check.ticks(x, 4);
        check.bytes(x, 6, 0xD6 & 0x97);
        check.ticks(x, 1);
        check.due("its own resolving table", x.position(), 64 + 32 + 1);
    }

    /** For every two identifiers: who goes on is the one whose bits are all in the other's. */
    private void allPairs() {
        for (int i = 0; i < 59; i++) {
            for (int j = i + 1; j < 60; j++) {
                HeaderSchedule x = new HeaderSchedule();
                x.frame(i, 3, 2, false);
                x.frame(j, 1, 2, false);
                x.signal(0, 8, 8, 1);
                x.signal(1, 8, 8, 2);
                int free = i == 0 ? (j == 1 ? 2 : 1) : 0;
                x.event(free, 0, 1, NONE, 2);
                x.entry(0, 0, 0, 1);
                x.entry(0, 0, 1, 1);
                x.entry(0, 2, 0, 1);
                x.entry(2, 0, 0, 1);
                x.entry(2, 0, 1, 1);
                x.start(0);
                x.tick();
                int one = x.bus(0);
                x.tick();
                int two = x.bus(0);
                x.write(0, 1);
                x.write(1, 2);
                boolean goesOn = (one & two) == one || (one & two) == two;
                check.due("both of " + i + " and " + j, x.tick(), goesOn ? 1 : 4);
                check.due("byte 0", x.bus(1), one & two);
                check.due("byte 1", x.bus(2), !goesOn ? NONE : (one & two) == one ? 1 : 2);
                check.due("the first", x.pending(0), (one & two) != one);
                check.due("the second", x.pending(1), (one & two) != two);
            }
        }
    }

    public static void main(String[] args) {
        EventTest test = new EventTest();
        test.nobodyResponds();
        test.oneResponds();
        test.allCollide();
        test.oneOfTwoGoesOn();
        test.theirByteIsThatOfAThird();
        test.noiseInTheResponse();
        test.noiseInByteZero();
        test.noiseIsNotSeenBySenders();
        test.noiseWaitsOverASilentEvent();
        test.ownSlotOfAnAssociatedFrame();
        test.twoEventFrames();
        test.allPairs();
        test.check.end();
    }
}
