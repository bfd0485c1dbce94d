/** The section Terms, the paragraphs on noise and on valid responses, sentence by sentence. */
public final class TermsNoiseAndValidTest {
    /** Headers 0xC1, 0x42, 0xC4 under the event frame's 0x03, of 2 bytes, plain. */
    private static HeaderSchedule apart() {
        return Scenes.threeSlaves(3, false, 2, 1, 2, 4);
    }

    private static void oneByteOfTheNext(Check check) {
        HeaderSchedule x = Scenes.oneFrame(false, 1, 2, 3);
        x.noise(1, 0x70);
        check.ticks(x, 3);
        check.bytes(x, 0x08, 1, 2 ^ 0x70, 3, 249);
        check.ticks(x, 1);
        check.bytes(x, 0x08, 1, 2, 3, 249);
    }

    private static void notAsTheSendersSeeIt(Check check) {
        HeaderSchedule alone = apart();
        alone.write(0, 5);
        alone.noise(0, 0x80);
        check.ticks(alone, 4);
        check.bytes(alone, 0x03, 0x41, 5, 255 - 0xC1 - 5);

        // They make 0x40; turned into the byte of one of them, it still ends there.
        HeaderSchedule two = apart();
        two.write(0, 5);
        two.write(1, 6);
        two.noise(0, 0x40 ^ 0xC1);
        check.ticks(two, 4);
        check.bytes(two, 0x03, 0xC1);
        check.yes("both are pending", two.pending(0) && two.pending(1));

        // 0x08 goes on before 0xCA, though 0xCA is received.
        HeaderSchedule over = Scenes.threeSlaves(3, false, 2, 10, 8, 4);
        over.write(0, 5);
        over.write(1, 6);
        over.noise(0, 0x08 ^ 0xCA);
        check.ticks(over, 4);
        check.bytes(over, 0x03, 0xCA, 6, 255 - 0x08 - 6);
        check.yes("both are pending", over.pending(0) && over.pending(1));
    }

    private static void goneAllTheSame(Check check) {
        for (int length = 1; length <= 7; length++) {
            HeaderSchedule x = Scenes.oneFrame(false, new int[length]);
            for (int k = length + 1; k <= 8; k++) {
                check.yes("noise(" + k + ", 255)", x.noise(k, 255));
                check.ticks(x, 1);
                check.due("the last byte of " + length, x.bus(length + 1), 255);
                check.none("none behind it", x.bus(length + 2));
                check.ticks(x, 1);
            }
            check.yes("the last byte that is there", x.noise(length, 255));
            check.ticks(x, 3);
        }
        HeaderSchedule later = new HeaderSchedule();
        later.frame(8, 1, 1, false);
        later.frame(13, 1, 8, false);
        later.entry(0, 0, 0, 1);
        later.entry(0, 0, 1, 1);
        later.start(0);
        later.noise(5, 1);
        check.ticks(later, 1, 1);
        check.bytes(later, 0x0D, 255, 255, 255, 255, 255, 255, 255, 255, 0);
    }

    private static void goneWhenTheResponseEnded(Check check) {
        for (int k = 1; k <= 8; k++) {
            HeaderSchedule x = apart();
            x.write(0, 5);
            x.write(1, 6);
            x.noise(k, 255);
            check.ticks(x, 4);
            check.bytes(x, 0x03, 0x40);
            check.ticks(x, 1, 1, 1, 2);
        }
    }

    private static void asManyBytes(Check check) {
        HeaderSchedule x = Scenes.threeSlaves(3, false, 2, 8, 9, 14);
        x.write(1, 1);
        x.write(2, 2);
        check.ticks(x, 4);
        check.bytes(x, 0x03, 0x08);
        check.no("fresh(0)", x.fresh(0));
        for (int length = 2; length <= 8; length++) {
            HeaderSchedule whole = Scenes.threeSlaves(3, true, length, 1, 2, 4);
            whole.write(2, 9);
            check.ticks(whole, 1);
            check.due("of " + length + " and a checksum", whole.read(2), 9);
            check.none("no more", whole.bus(length + 2));
        }
    }

    /** The sum of 0 and that of 255 are not the same, though a sum above 255 is as that less 255. */
    private static void theChecksumOfTheDataReceived(Check check) {
        HeaderSchedule same = Scenes.oneFrame(false, 0, 3);
        same.noise(0, 255);
        check.ticks(same, 1);
        check.bytes(same, 0x08, 255, 3, 252);
        HeaderSchedule zero = Scenes.oneFrame(false, 0, 0);
        zero.noise(0, 255);
        check.ticks(zero, 3);
        check.bytes(zero, 0x08, 255, 0, 255);
        HeaderSchedule back = Scenes.oneFrame(false, 255, 0);
        back.noise(0, 255);
        check.ticks(back, 3);
        check.bytes(back, 0x08, 0, 0, 0);
        HeaderSchedule sum = Scenes.oneFrame(false, 0);
        sum.noise(1, 255);
        check.ticks(sum, 3);
        check.bytes(sum, 0x08, 0, 0);
        HeaderSchedule full = Scenes.oneFrame(false, 255);
        full.noise(1, 255);
        check.ticks(full, 3);
        check.bytes(full, 0x08, 255, 255);
        HeaderSchedule enhanced = Scenes.oneFrame(true, 0);
        enhanced.noise(0, 255);
        check.ticks(enhanced, 1);
        check.due("with the header the sum is not 0", enhanced.read(0), 255);
    }

    /** Each bit of each byte, turned by itself, is found. */
    private static void oneBitIsFound(Check check) {
        for (int k = 0; k <= 8; k++) {
            for (int bit = 0; bit < 8; bit++) {
                HeaderSchedule x = Scenes.oneFrame(true, 1, 20, 3, 40, 5, 60, 7, 80);
                x.noise(k, 1 << bit);
                check.ticks(x, 3);
            }
        }
    }

    private static void theIdentifierOfAnAssociatedFrame(Check check) {
        for (int mask = 1; mask <= 255; mask++) {
            HeaderSchedule x = apart();
            x.write(0, 5);
            x.noise(0, mask);
            check.ticks(x, 4);
            check.due("byte 0", x.bus(1), 0xC1 ^ mask);
            check.yes("still pending", x.pending(0));
            for (int i = 0; i < 3; i++) {
                check.no("not fresh", x.fresh(i));
                check.due("not received", x.read(i), 10 + i);
            }
        }
        HeaderSchedule x = apart();
        x.write(0, 5);
        check.ticks(x, 1);
        check.due("without noise", x.read(0), 5);
    }

    private static void thatAssociatedOne(Check check) {
        for (int sender = 0; sender < 3; sender++) {
            HeaderSchedule x = apart();
            x.write(sender, 70);
            check.ticks(x, 1);
            for (int i = 0; i < 3; i++) {
                check.due("read(" + i + ")", x.read(i), i == sender ? 70 : 10 + i);
                check.due("fresh(" + i + ")", x.fresh(i), i == sender);
                check.no("pending(" + i + ")", x.pending(i));
            }
        }
    }

    private static void whatTheBytesHave(Check check) {
        HeaderSchedule x = new HeaderSchedule();
        x.frame(8, 1, 3, false);
        x.signal(0, 0, 4, 0);
        x.signal(0, 4, 8, 0);
        x.signal(0, 12, 4, 0);
        x.entry(0, 0, 0, 1);
        x.start(0);
        x.write(1, 0x60);
        // Byte 0 is sent as 0 and received as 255, which leaves the checksum as it is.
        x.noise(0, 255);
        check.ticks(x, 1);
        check.bytes(x, 0x08, 0xFF, 0x06, 0xFF, 255 - 0x06);
        check.due("all in byte 0", x.read(0), 0x0F);
        check.due("half in byte 0", x.read(1), 0x6F);
        check.due("behind it", x.read(2), 0);
        check.ticks(x, 1);
        check.due("what was written is as it was", x.read(1), 0x60);
        check.due("what was written is as it was", x.read(0), 0);
    }

    private static void freshAndNotPending(Check check) {
        HeaderSchedule x = Scenes.oneFrame(false, 1, 2, 3);
        x.write(1, 9);
        check.ticks(x, 1);
        check.no("pending(0)", x.pending(0));
        for (int i = 0; i < 3; i++) {
            check.yes("fresh(" + i + ")", x.fresh(i));
        }
    }

    private static void notValidChangesNothing(Check check) {
        HeaderSchedule x = Scenes.oneFrame(false, 1, 2, 3);
        check.ticks(x, 1);
        check.yes("fresh(0)", x.fresh(0));
        x.noise(0, 1);
        check.ticks(x, 3);
        check.no("not pending, and not made so", x.pending(0));
        check.no("fresh(0) was taken", x.fresh(0));
        check.yes("fresh(1) is from before", x.fresh(1));
        x.write(2, 8);
        x.noise(3, 1);
        check.ticks(x, 3);
        check.yes("pending", x.pending(0));
        check.due("read(2)", x.read(2), 3);
        HeaderSchedule both = Scenes.collided();
        check.yes("both are pending", both.pending(2) && both.pending(3));
        check.no("others are not", both.pending(0) || both.pending(1));
        check.due("read(2)", both.read(2), 12);
        check.due("read(3)", both.read(3), 13);
        check.ticks(both, 0, 1, 1);
        check.due("read(2)", both.read(2), 30);
        check.due("read(3)", both.read(3), 40);
    }

    public static void main(String[] args) {
        Section section = new Section("Terms");
        section.sentence("NOISE that was ordered changes one byte of the next response on the bus as it is received",
            TermsNoiseAndValidTest::oneByteOfTheNext);
        section.sentence("not as the senders see it", TermsNoiseAndValidTest::notAsTheSendersSeeIt);
        section.sentence("when that response does not have this byte, the noise is gone all the same.",
            TermsNoiseAndValidTest::goneAllTheSame);
        section.sentence("the response ends there. -- the noise is gone all the same.",
            TermsNoiseAndValidTest::goneWhenTheResponseEnded);
        section.sentence("it has as many bytes as the data of its frame (all associated frames being as long) and a"
            + " checksum", TermsNoiseAndValidTest::asManyBytes);
        section.sentence("the checksum is that of the data bytes received under this header",
            TermsNoiseAndValidTest::theChecksumOfTheDataReceived);
        section.sentence("the checksum is that of the data bytes received", TermsNoiseAndValidTest::oneBitIsFound);
        section.sentence("in the slot of an event frame, byte 0 received is the protected identifier of one of its"
            + " associated frames.", TermsNoiseAndValidTest::theIdentifierOfAnAssociatedFrame);
        section.sentence("Then the frame (in the slot of an event frame: that associated one) is RECEIVED",
            TermsNoiseAndValidTest::thatAssociatedOne);
        section.sentence("the received values of its signals become what the data bytes received have in their bits",
            TermsNoiseAndValidTest::whatTheBytesHave);
        section.sentence("its signals are fresh, and it is not pending any more.",
            TermsNoiseAndValidTest::freshAndNotPending);
        section.sentence("A response that is not valid changes no values, and leaves pending what is.",
            TermsNoiseAndValidTest::notValidChangesNothing);
        section.end();
    }
}
