/** The section Terms, its first two paragraphs, sentence by sentence. */
public final class TermsFramesAndSignalsTest {
    private static final int NONE = HeaderSchedule.NONE;

    private static void nodes(Check check) {
        HeaderSchedule x = new HeaderSchedule();
        for (int node = 0; node <= 3; node++) {
            check.due("frame of node " + node, x.frame(node, node, 2, false), node);
        }
        check.due("another of node 0", x.frame(4, 0, 2, false), 4);
        for (int slave = 1; slave <= 3; slave++) {
            check.none("no group with slave " + slave, x.sporadic(0, slave, NONE));
            check.none("no event frame with the master and slave " + slave, x.event(20, 0, slave, NONE, 0));
        }
        check.due("a group of the master's", x.sporadic(0, 4, NONE), 0);
        check.due("an event frame of the slaves'", x.event(20, 1, 2, 3, 0), 0);
    }

    private static void frames(Check check) {
        HeaderSchedule x = new HeaderSchedule();
        for (int i = 0; i < 8; i++) {
            check.no("no frame " + i, x.entry(0, 0, i, 1));
            check.none("refused between them", x.frame(60, 0, 1, false));
            check.due("frame " + i, x.frame(50 - i, 0, 1, false), i);
            check.yes("it is there", x.entry(0, 0, i, 1));
        }
        check.none("no ninth", x.frame(0, 0, 1, false));
        x.start(0);
        for (int i = 0; i < 8; i++) {
            check.ticks(x, 1);
            check.due("the number leads to frame " + i, x.bus(0), Scenes.protect(50 - i));
        }
    }

    private static void whatAFrameHas(Check check) {
        for (int length = 1; length <= 8; length++) {
            for (int identifier : new int[] {0, 59}) {
                HeaderSchedule x = new HeaderSchedule();
                x.frame(identifier, length % 4, length, length % 2 == 0);
                x.entry(0, 0, 0, 1);
                x.start(0);
                check.ticks(x, 1);
                int header = Scenes.protect(identifier);
                check.due("header", x.bus(0), header);
                for (int k = 1; k <= length; k++) {
                    check.due("data byte " + k + " of " + length, x.bus(k), 255);
                }
                check.due("checksum", x.bus(length + 1), length % 2 == 0 ? 255 - header : 0);
                check.none("no more", x.bus(length + 2));
            }
        }
    }

    private static void signals(Check check) {
        HeaderSchedule x = new HeaderSchedule();
        for (int i = 0; i < 4; i++) {
            x.frame(i, i, 2, false);
        }
        for (int i = 0; i < 16; i++) {
            check.none("no signal " + i, x.read(i));
            check.none("refused between them", x.signal(i % 4, 16, 1, 0));
            check.due("signal " + i, x.signal(i % 4, 4 * (i / 4), 4, i), i);
            check.due("it is there", x.read(i), i);
        }
        for (int frame = 0; frame < 4; frame++) {
            check.none("no seventeenth", x.signal(frame, 0, 1, 0));
        }
    }

    private static void offsetAndWidth(Check check) {
        for (int width = 1; width <= 16; width++) {
            HeaderSchedule x = new HeaderSchedule();
            x.frame(8, 0, 3, false);
            x.signal(0, 4, width, 0);
            x.entry(0, 0, 0, 1);
            x.start(0);
            check.ticks(x, 1);
            int zeros = ((1 << width) - 1) << 4;
            for (int k = 0; k < 3; k++) {
                check.due("byte " + k + " with " + width + " zeros", x.bus(1 + k), 255 & ~(zeros >> 8 * k));
            }
        }
    }

    private static void value(Check check) {
        for (int width = 1; width <= 16; width++) {
            int most = (1 << width) - 1;
            HeaderSchedule x = new HeaderSchedule();
            x.frame(8, 0, 2, false);
            check.none("made with one too many", x.signal(0, 0, width, most + 1));
            check.none("made with one too few", x.signal(0, 0, width, -1));
            check.due("made with the most", x.signal(0, 0, width, most), 0);
            check.no("one too many written", x.write(0, most + 1));
            check.no("one too few written", x.write(0, -1));
            check.yes("the least written", x.write(0, 0));
            x.entry(0, 0, 0, 1);
            x.start(0);
            check.ticks(x, 1);
            check.due("the least received", x.read(0), 0);
            check.yes("the most written", x.write(0, most));
            check.ticks(x, 1);
            check.due("the most received", x.read(0), most);
        }
    }

    private static void writtenAndReceived(Check check) {
        HeaderSchedule x = Scenes.oneFrame(false, 33, 44);
        check.due("received at first", x.read(0), 33);
        check.ticks(x, 1);
        check.bytes(x, 0x08, 33, 44, 178);
        x.write(0, 34);
        check.due("written, received is another", x.read(0), 33);
        x.noise(2, 1);
        check.ticks(x, 3);
        check.due("what is sent is what was written", x.bus(1), 34);
        check.due("received is another still", x.read(0), 33);
        check.ticks(x, 1);
        check.due("both the same", x.read(0), 34);
    }

    private static void bitOfAFrame(Check check) {
        for (int b = 0; b < 64; b++) {
            HeaderSchedule x = new HeaderSchedule();
            x.frame(8, 0, 8, false);
            x.signal(0, b, 1, 0);
            x.entry(0, 0, 0, 1);
            x.start(0);
            check.ticks(x, 1);
            for (int k = 0; k < 8; k++) {
                check.due("bit " + b + " in byte " + k, x.bus(1 + k), k == b / 8 ? 255 - (1 << b % 8) : 255);
            }
            check.due("read(0)", x.read(0), 0);
        }
    }

    private static void bitOfAValue(Check check) {
        for (int offset = 0; offset <= 48; offset++) {
            HeaderSchedule x = new HeaderSchedule();
            x.frame(8, 0, 8, false);
            x.signal(0, offset, 16, 0);
            x.entry(0, 0, 0, 1);
            x.start(0);
            for (int j = 0; j < 16; j++) {
                x.write(0, 65535 - (1 << j));
                check.ticks(x, 1);
                int b = offset + j;
                check.due("bit " + j + " from " + offset + " on", x.bus(1 + b / 8), 255 - (1 << b % 8));
                check.due("and received", x.read(0), 65535 - (1 << j));
            }
        }
    }

    private static void noBitInCommon(Check check) {
        HeaderSchedule x = new HeaderSchedule();
        x.frame(8, 0, 8, false);
        x.frame(13, 0, 8, false);
        check.due("bits 0 .. 15", x.signal(0, 0, 16, 0), 0);
        check.none("bit 15", x.signal(0, 15, 1, 0));
        check.due("bit 16", x.signal(0, 16, 1, 0), 1);
        check.none("bits 16 .. 31", x.signal(0, 16, 16, 0));
        check.due("bits 48 .. 63", x.signal(0, 48, 16, 0), 2);
        check.none("bits 47, 48", x.signal(0, 47, 2, 0));
        check.due("bits 46, 47", x.signal(0, 46, 2, 0), 3);
        check.due("bits 0 .. 15 of the other frame", x.signal(1, 0, 16, 0), 4);
        x.entry(0, 0, 0, 1);
        x.start(0);
        x.write(1, 1);
        x.write(2, 65535);
        check.ticks(x, 1);
        check.bytes(x, 0x08, 0, 0, 255, 255, 255, 0x3F, 255, 255, 255 - 0x3F);
    }

    private static void protectedIdentifiers(Check check) {
        for (int i = 0; i < 60; i++) {
            HeaderSchedule x = new HeaderSchedule();
            x.frame(i, 1, 2, false);
            x.frame((i + 1) % 60, 1, 2, false);
            x.frame((i + 2) % 60, 2, 2, false);
            x.event((i + 3) % 60, 1, 2, NONE, 1);
            x.signal(1, 8, 8, 0);
            x.entry(0, 0, 0, 1);
            x.entry(0, 2, 0, 1);
            x.entry(1, 0, 1, 1);
            x.entry(1, 0, 2, 1);
            x.start(0);
            x.write(0, 0);
            check.ticks(x, 1);
            check.due("header of frame " + i, x.bus(0), Scenes.protect(i));
            check.ticks(x, 1);
            check.due("header of an event frame", x.bus(0), Scenes.protect((i + 3) % 60));
            check.due("byte 0 of an associated frame", x.bus(1), Scenes.protect((i + 1) % 60));
        }
    }

    public static void main(String[] args) {
        Section section = new Section("Terms");
        section.sentence("NODES: 0 is the master, 1, 2, 3 are slaves.", TermsFramesAndSignalsTest::nodes);
        section.sentence("FRAMES, numbered 0, 1, .. as they are made, at most 8", TermsFramesAndSignalsTest::frames);
        section.sentence("each has an identifier 0 .. 59, a publisher (a node), a length of 1 to 8 bytes, and the plain"
            + " or the enhanced checksum.", TermsFramesAndSignalsTest::whatAFrameHas);
        section.sentence("SIGNALS, numbered likewise, at most 16", TermsFramesAndSignalsTest::signals);
        section.sentence("each lies in a frame, from a bit offset on, and has a width of 1 to 16 bits",
            TermsFramesAndSignalsTest::offsetAndWidth);
        section.sentence("its value is a number 0 .. 2^width - 1", TermsFramesAndSignalsTest::value);
        section.sentence("it has a WRITTEN value (at its publisher) and a RECEIVED value (at all others), at first both"
            + " the same.", TermsFramesAndSignalsTest::writtenAndReceived);
        section.sentence("Bit b of a frame is bit b % 8 (0 the lowest) of its byte b / 8",
            TermsFramesAndSignalsTest::bitOfAFrame);
        section.sentence("bit j of a signal's value is bit offset + j of its frame.",
            TermsFramesAndSignalsTest::bitOfAValue);
        section.sentence("Signals of one frame have no bit in common.", TermsFramesAndSignalsTest::noBitInCommon);
        section.sentence("The PROTECTED identifier of an identifier i with bits i0 (lowest) .. i5 is i + 64 * (i0 xor"
            + " i1 xor i2 xor i4) + 128 * (1 - (i1 xor i3 xor i4 xor i5)).",
            TermsFramesAndSignalsTest::protectedIdentifiers);
        section.end();
    }
}
