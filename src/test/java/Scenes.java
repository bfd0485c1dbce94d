/** Objects that many tests begin with, each in another state. */
final class Scenes {
    private static final int NONE = HeaderSchedule.NONE;

    /** The protected identifiers of 0 .. 59, as they are printed in tables of the LIN bus. */
    private static final int[] PROTECTED = {
        0x80, 0xC1, 0x42, 0x03, 0xC4, 0x85, 0x06, 0x47, 0x08, 0x49, 0xCA, 0x8B, 0x4C, 0x0D, 0x8E, 0xCF,
        0x50, 0x11, 0x92, 0xD3, 0x14, 0x55, 0xD6, 0x97, 0xD8, 0x99, 0x1A, 0x5B, 0x9C, 0xDD, 0x5E, 0x1F,
        0x20, 0x61, 0xE2, 0xA3, 0x64, 0x25, 0xA6, 0xE7, 0xA8, 0xE9, 0x6A, 0x2B, 0xEC, 0xAD, 0x2E, 0x6F,
        0xF0, 0xB1, 0x32, 0x73, 0xB4, 0xF5, 0x76, 0x37, 0x78, 0x39, 0xBA, 0xFB,
    };

    private Scenes() {
    }

    static int protect(int identifier) {
        return PROTECTED[identifier];
    }

    static HeaderSchedule fresh() {
        return new HeaderSchedule();
    }

    /**
     * Frames of 2 bytes: 0 and 1 of the master (headers 0x08, 0x0D, plain), 2 and 3 of the slaves 1 and 2 (0xC1, 0x42,
     * enhanced); signal i is byte 1 of frame i and 10 + i. Group 0: frames 0 and 1. Event frame 0 (0x03): frames 2 and
     * 3, resolved by table 1. Table 0: frame 0 for 2 ticks, the group for 1, the event frame for 2. Table 1: frames 2
     * and 3, for 1 each. Table 2: frame 1 for 1. Not started.
     */
    static HeaderSchedule made() {
        HeaderSchedule x = new HeaderSchedule();
        x.frame(8, 0, 2, false);
        x.frame(13, 0, 2, false);
        x.frame(1, 1, 2, true);
        x.frame(2, 2, 2, true);
        for (int i = 0; i < 4; i++) {
            x.signal(i, 8, 8, 10 + i);
        }
        x.sporadic(0, 1, NONE);
        x.event(3, 2, 3, NONE, 1);
        x.entry(0, 0, 0, 2);
        x.entry(0, 1, 0, 1);
        x.entry(0, 2, 0, 2);
        x.entry(1, 0, 2, 1);
        x.entry(1, 0, 3, 1);
        x.entry(2, 0, 1, 1);
        return x;
    }

    /** As made(), with frame 3 pending and noise ordered. */
    static HeaderSchedule laden() {
        HeaderSchedule x = made();
        x.write(3, 99);
        x.noise(1, 4);
        return x;
    }

    /** As made(), started with table 0. */
    static HeaderSchedule started() {
        HeaderSchedule x = made();
        x.start(0);
        return x;
    }

    /** In the slot of frame 0, which was received; frames 1 and 2 pending, noise ordered, table 2 requested. */
    static HeaderSchedule running() {
        HeaderSchedule x = started();
        x.write(0, 20);
        x.tick();
        x.write(1, 40);
        x.write(2, 30);
        x.noise(2, 3);
        x.request(2);
        return x;
    }

    /** In the slot of the event frame, in which both collided: the resolving run comes at the next boundary. */
    static HeaderSchedule collided() {
        HeaderSchedule x = started();
        x.write(2, 30);
        x.write(3, 40);
        for (int i = 0; i < 4; i++) {
            x.tick();
        }
        return x;
    }

    /** In the resolving run, behind its first slot; frames 0 and 3 pending, noise ordered, table 2 requested. */
    static HeaderSchedule resolving() {
        HeaderSchedule x = collided();
        x.tick();
        x.tick();
        x.write(0, 7);
        x.noise(0, 1);
        x.request(2);
        return x;
    }

    /** As resolving(), asleep. */
    static HeaderSchedule asleep() {
        HeaderSchedule x = resolving();
        x.sleep();
        return x;
    }

    /** One frame (header 0x08) of slave 2 with a signal in each of its bytes, alone in table 0 for a tick; started. */
    static HeaderSchedule oneFrame(boolean enhanced, int... values) {
        HeaderSchedule x = new HeaderSchedule();
        x.frame(8, 2, values.length, enhanced);
        for (int i = 0; i < values.length; i++) {
            x.signal(0, 8 * i, 8, values[i]);
        }
        x.entry(0, 0, 0, 1);
        x.start(0);
        return x;
    }

    /**
     * Frames 0, 1, 2 of the slaves 1, 2, 3 with these identifiers, of this length; signal i is byte 1 of frame i and
     * 10 + i. Event frame 0 of all three, alone in table 0 for a tick; table 1 resolves: frames 0, 1, 2, for 1 each.
     * Started with table 0. The length is 2 at least.
     */
    static HeaderSchedule threeSlaves(int event, boolean enhanced, int length, int... identifiers) {
        HeaderSchedule x = new HeaderSchedule();
        for (int i = 0; i < 3; i++) {
            x.frame(identifiers[i], 1 + i, length, enhanced);
            x.signal(i, 8, 8, 10 + i);
            x.entry(1, 0, i, 1);
        }
        x.event(event, 0, 1, 2, 1);
        x.entry(0, 2, 0, 1);
        x.start(0);
        return x;
    }
}
