/** The section Terms, the paragraph on pending frames, data and checksums, sentence by sentence. */
public final class TermsDataAndChecksumTest {
    private static final int NONE = HeaderSchedule.NONE;

    private static void becomesPending(Check check) {
        HeaderSchedule x = Scenes.oneFrame(false, 1, 2, 3);
        for (int signal = 0; signal < 3; signal++) {
            check.no("before", x.pending(0));
            x.write(signal, 9);
            check.yes("signal " + signal + " written", x.pending(0));
            check.ticks(x, 1);
        }
        check.no("a refused write", x.write(0, 256));
        check.no("does not make it so", x.pending(0));
        check.ticks(x, 1);
        check.no("nor does being sent", x.pending(0));
    }

    /** In its own slot, in a group's and in an event frame's; not when another one is, nor when it is not valid. */
    private static void ceasesToBe(Check check) {
        HeaderSchedule x = Scenes.started();
        for (int i = 0; i < 3; i++) {
            x.write(i, 1);
        }
        x.noise(0, 1);
        check.ticks(x, 3, 0);
        check.yes("not valid", x.pending(0));
        check.ticks(x, 1);
        check.no("in the group's slot", x.pending(0));
        check.yes("the group's other frame", x.pending(1));
        check.ticks(x, 1, 0);
        check.no("in the event frame's slot", x.pending(2));
        x.write(0, 2);
        check.ticks(x, 1, 0);
        check.no("in its own slot", x.pending(0));
        check.yes("the group's other frame", x.pending(1));
        check.ticks(x, 1);
        check.no("the group's other frame, received now", x.pending(1));
    }

    private static void data(Check check) {
        HeaderSchedule x = new HeaderSchedule();
        x.frame(8, 0, 3, false);
        x.signal(0, 1, 3, 2);
        x.signal(0, 7, 2, 0);
        x.signal(0, 20, 4, 9);
        x.entry(0, 0, 0, 1);
        x.start(0);
        check.ticks(x, 1);
        check.bytes(x, 0x08, 0x75, 0xFE, 0x9F, 255 - (0x75 + 0xFE + 0x9F - 2 * 255));
        x.write(1, 3);
        x.write(0, 5);
        x.write(2, 0);
        check.ticks(x, 1);
        check.bytes(x, 0x08, 0xFB, 0xFF, 0x0F, 255 - (0xFB + 0xFF + 0x0F - 2 * 255));
    }

    private static void otherBits(Check check) {
        for (int length = 1; length <= 8; length++) {
            HeaderSchedule x = new HeaderSchedule();
            x.frame(8, 0, length, false);
            x.entry(0, 0, 0, 1);
            x.start(0);
            check.ticks(x, 1);
            for (int k = 1; k <= length; k++) {
                check.due("a frame without signals, byte " + k, x.bus(k), 255);
            }
        }
        HeaderSchedule x = Scenes.made();
        x.start(1);
        check.ticks(x, 1);
        check.due("byte 0 of an associated frame is none of them", x.bus(1), 0xC1);
    }

    private static int checksum(boolean enhanced, int... values) {
        HeaderSchedule x = Scenes.oneFrame(enhanced, values);
        x.tick();
        return x.bus(values.length + 1);
    }

    private static void addTheDataBytes(Check check) {
        check.due("of one byte", checksum(false, 1), 254);
        check.due("of eight", checksum(false, 1, 2, 4, 8, 16, 32, 64, 127), 1);
        check.due("the last byte counts", checksum(false, 0, 0, 0, 0, 0, 0, 0, 7), 248);
        check.due("the first byte counts", checksum(false, 7, 0, 0, 0, 0, 0, 0, 0), 248);
    }

    private static void alsoTheHeader(Check check) {
        for (int identifier = 0; identifier < 60; identifier++) {
            HeaderSchedule x = new HeaderSchedule();
            x.frame(identifier, 1, 1, true);
            x.frame((identifier + 1) % 60, 1, 1, false);
            x.signal(0, 0, 8, 0);
            x.signal(1, 0, 8, 0);
            x.entry(0, 0, 0, 1);
            x.entry(0, 0, 1, 1);
            x.start(0);
            check.ticks(x, 1);
            check.due("enhanced, of 0", x.bus(2), 255 - Scenes.protect(identifier));
            check.ticks(x, 1);
            check.due("plain, of 0", x.bus(2), 255);
        }
        check.due("the header and the data", checksum(true, 100), 255 - 108);
    }

    private static void above255(Check check) {
        check.due("a sum of 254", checksum(false, 254, 0), 1);
        check.due("a sum of 255", checksum(false, 255, 0), 0);
        check.due("a sum of 255, of two", checksum(false, 200, 55), 0);
        check.due("a sum of 256", checksum(false, 255, 1), 254);
        check.due("a sum of 509", checksum(false, 255, 254), 1);
        check.due("a sum of 510", checksum(false, 255, 255), 0);
        check.due("a sum of 511", checksum(false, 255, 255, 1), 254);
        check.due("a sum of 8 * 255", checksum(false, 255, 255, 255, 255, 255, 255, 255, 255), 0);
        check.due("a sum of 8 * 255 - 1", checksum(false, 255, 255, 255, 255, 255, 255, 255, 254), 1);
        check.due("with the header 254", checksum(true, 246), 1);
        check.due("with the header 255", checksum(true, 247), 0);
        check.due("with the header 256", checksum(true, 248), 254);
        check.due("with the header 8 + 8 * 255", checksum(true, 255, 255, 255, 255, 255, 255, 255, 255), 247);
        check.due("with the header 510", checksum(true, 247, 255), 0);
        check.due("with the header 511", checksum(true, 248, 255), 254);
    }

    private static void lessTheSum(Check check) {
        check.due("a sum of 0", checksum(false, 0, 0), 255);
        check.due("a sum of 1", checksum(false, 0, 1), 254);
        check.due("a sum of 255", checksum(false, 128, 127), 0);
        for (int sum = 0; sum <= 255; sum++) {
            check.due("a sum of " + sum, checksum(false, sum), 255 - sum);
        }
        for (int value = 0; value <= 255; value++) {
            int sum = value + 0x08 > 255 ? value + 0x08 - 255 : value + 0x08;
            check.due("enhanced, of " + value, checksum(true, value), 255 - sum);
        }
    }

    /** Frame 2 of the scene is enhanced: 0xC1, 0x05 under its own header 0xC1, and under the event frame's 0x03. */
    private static void underThisHeader(Check check) {
        HeaderSchedule own = Scenes.made();
        own.write(2, 5);
        own.start(1);
        check.ticks(own, 1);
        check.bytes(own, 0xC1, 0xC1, 5, 255 - (0xC1 + 0xC1 + 5 - 255));
        HeaderSchedule event = Scenes.started();
        event.write(2, 5);
        check.ticks(event, 1, 0, 2, 1);
        check.bytes(event, 0x03, 0xC1, 5, 255 - (0x03 + 0xC1 + 5));
        HeaderSchedule plain = new HeaderSchedule();
        plain.frame(1, 1, 2, false);
        plain.frame(2, 2, 2, false);
        plain.event(3, 0, 1, NONE, 1);
        plain.signal(0, 8, 8, 5);
        plain.entry(0, 2, 0, 1);
        plain.entry(1, 0, 0, 1);
        plain.entry(1, 0, 1, 1);
        plain.start(0);
        plain.write(0, 5);
        check.ticks(plain, 1);
        check.bytes(plain, 0x03, 0xC1, 5, 255 - (0xC1 + 5));
    }

    public static void main(String[] args) {
        Section section = new Section("Terms");
        section.sentence("a frame becomes pending when one of its signals is written",
            TermsDataAndChecksumTest::becomesPending);
        section.sentence("and ceases to be when it is received.", TermsDataAndChecksumTest::ceasesToBe);
        section.sentence("THE DATA of a frame are its bytes with the written values of its signals in their bits",
            TermsDataAndChecksumTest::data);
        section.sentence("and, when it is associated, its byte 0; all other bits are 1.",
            TermsDataAndChecksumTest::otherBits);
        section.sentence("add the data bytes", TermsDataAndChecksumTest::addTheDataBytes);
        section.sentence("with the enhanced checksum also the header's protected identifier",
            TermsDataAndChecksumTest::alsoTheHeader);
        section.sentence("whenever the sum is above 255, take 255 off", TermsDataAndChecksumTest::above255);
        section.sentence("the checksum is 255 less the sum (0 for a sum of 255).",
            TermsDataAndChecksumTest::lessTheSum);
        section.sentence("The RESPONSE is a row of bytes on the bus: the data bytes of a frame, then the checksum of"
            + " them under this header.", TermsDataAndChecksumTest::underThisHeader);
        section.end();
    }
}
