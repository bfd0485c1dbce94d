/** Promise 15, sentence by sentence. */
public final class Promise15BusTest {
    private static final int[] NO_SUCH = {-1, -2, 11, 16, Integer.MIN_VALUE, Integer.MAX_VALUE};

    private static void latestSlotAsReceived(Check check) {
        HeaderSchedule x = Scenes.started();
        check.ticks(x, 1);
        x.write(0, 30);
        check.bytes(x, 0x08, 0xFF, 10, 245);
        check.ticks(x, 0);
        check.bytes(x, 0x08, 0xFF, 10, 245);
        x.noise(1, 0x80);
        check.ticks(x, 3);
        check.bytes(x, 0x08, 0xFF, 30 ^ 0x80, 225);
        x.sleep();
        check.bytes(x, 0x08, 0xFF, 30 ^ 0x80, 225);
        x.wake();
        check.bytes(x, 0x08, 0xFF, 30 ^ 0x80, 225);
    }

    private static void headerAndResponse(Check check) {
        HeaderSchedule x = Scenes.oneFrame(false, 1, 2, 3, 4, 5, 6, 7, 8);
        check.ticks(x, 1);
        check.bytes(x, 0x08, 1, 2, 3, 4, 5, 6, 7, 8, 219);
        HeaderSchedule y = Scenes.oneFrame(false, 9);
        check.ticks(y, 1);
        check.bytes(y, 0x08, 9, 246);
    }

    private static void noSlotYet(Check check) {
        Twins twins = new Twins(check, Scenes::fresh, Scenes::laden, Scenes::started);
        for (int k = 0; k <= 9; k++) {
            int one = k;
            twins.none("bus(" + k + ")", x -> x.bus(one));
        }
        HeaderSchedule x = Scenes.started();
        x.sleep();
        check.none("asleep before the first slot", x.bus(0));
        x.wake();
        check.none("awake, no slot yet", x.bus(0));
        check.ticks(x, 1);
        check.due("the first slot", x.bus(0), 0x08);
    }

    private static void noHeader(Check check) {
        HeaderSchedule x = Scenes.started();
        check.ticks(x, 1, 0, 2);
        for (int k = 0; k <= 9; k++) {
            check.none("bus(" + k + ")", x.bus(k));
        }
        check.ticks(x, 2);
        check.due("the next has one", x.bus(0), 0x03);
    }

    private static void noSuchByte(Check check) {
        for (int length = 1; length <= 8; length++) {
            HeaderSchedule x = Scenes.oneFrame(false, new int[length]);
            check.ticks(x, 1);
            check.due("the checksum, its last byte", x.bus(length + 1), 255);
            for (int k = length + 2; k <= 10; k++) {
                check.none("bus(" + k + ") of " + length, x.bus(k));
            }
            for (int k : NO_SUCH) {
                check.none("bus(" + k + ")", x.bus(k));
            }
        }
        Twins twins = new Twins(check, Scenes::running, Scenes::resolving, Scenes::asleep);
        twins.none("bus(-1)", x -> x.bus(-1));
        twins.none("bus(4)", x -> x.bus(4));
    }

    /** What is behind a short slot is not what a longer one before it left there. */
    private static void noByteOfAnEarlierSlot(Check check) {
        HeaderSchedule x = new HeaderSchedule();
        x.frame(8, 1, 8, false);
        x.frame(13, 1, 1, false);
        x.entry(0, 0, 0, 1);
        x.entry(0, 0, 1, 1);
        x.start(0);
        check.ticks(x, 1);
        check.bytes(x, 0x08, 255, 255, 255, 255, 255, 255, 255, 255, 0);
        check.ticks(x, 1);
        check.bytes(x, 0x0D, 255, 0);
        for (int k = 3; k <= 9; k++) {
            check.none("bus(" + k + ")", x.bus(k));
        }
        HeaderSchedule y = Scenes.collided();
        check.bytes(y, 0x03, 0xC1 & 0x42);
        check.none("a response that ended", y.bus(3));
    }

    public static void main(String[] args) {
        Section section = new Section("Promise 15: bus");
        section.sentence("Byte k of the latest slot as received", Promise15BusTest::latestSlotAsReceived);
        section.sentence("0 the header, 1, 2, .. the bytes of the response.", Promise15BusTest::headerAndResponse);
        section.sentence("NONE when no slot began yet", Promise15BusTest::noSlotYet);
        section.sentence("there was no header in it", Promise15BusTest::noHeader);
        section.sentence("it has no such byte", Promise15BusTest::noSuchByte);
        section.sentence("the latest slot -- has no such byte.", Promise15BusTest::noByteOfAnEarlierSlot);
        section.end();
    }
}
