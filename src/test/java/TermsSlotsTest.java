/** The section Terms, the paragraphs on slots, sentence by sentence. */
public final class TermsSlotsTest {
    private static final int NONE = HeaderSchedule.NONE;

    /** Headers 0xC1, 0x42, 0xC4: each has bits that another does not have. */
    private static HeaderSchedule apart() {
        return Scenes.threeSlaves(3, false, 2, 1, 2, 4);
    }

    private static void beginsWithAHeader(Check check) {
        HeaderSchedule x = Scenes.started();
        x.write(1, 1);
        check.none("none before", x.bus(0));
        check.ticks(x, 1);
        check.due("a frame's", x.bus(0), 0x08);
        check.ticks(x, 0, 1);
        check.due("a group's: of the frame that is sent", x.bus(0), 0x0D);
        check.ticks(x, 2);
        check.due("an event frame's", x.bus(0), 0x03);
    }

    private static void frame(Check check) {
        for (int publisher = 0; publisher <= 3; publisher++) {
            HeaderSchedule x = new HeaderSchedule();
            x.frame(8, publisher, 1, false);
            x.signal(0, 0, 8, 6);
            x.entry(0, 0, 0, 1);
            x.start(0);
            check.ticks(x, 1);
            check.bytes(x, 0x08, 6, 249);
            x.write(0, 7);
            check.ticks(x, 1);
            check.bytes(x, 0x08, 7, 248);
            check.ticks(x, 1);
            check.bytes(x, 0x08, 7, 248);
        }
    }

    /** Frame 0 plain, 1 enhanced, 2 of eight bytes, as a group and then each by itself. */
    private static void asInItsOwnSlot(Check check) {
        HeaderSchedule x = new HeaderSchedule();
        x.frame(8, 0, 1, false);
        x.frame(13, 0, 2, true);
        x.frame(17, 0, 8, false);
        for (int i = 0; i < 3; i++) {
            x.signal(i, 0, 8, 0);
        }
        x.sporadic(0, 1, 2);
        x.entry(0, 1, 0, 1);
        for (int i = 0; i < 3; i++) {
            x.entry(1, 0, i, 1);
        }
        x.start(0);
        for (int i = 2; i >= 0; i--) {
            x.write(i, 40 + i);
        }
        for (int round = 0; round < 2; round++) {
            check.ticks(x, 1);
            check.bytes(x, 0x08, 40, 215);
            check.ticks(x, 1);
            check.bytes(x, 0x0D, 41, 255, 255 - (13 + 41));
            check.ticks(x, 1);
            check.bytes(x, 0x11, 42, 255, 255, 255, 255, 255, 255, 255, 255 - 42);
            x.request(1);
        }
        check.yes("received", x.fresh(0) && x.fresh(1) && x.fresh(2));
    }

    private static void noneOfTheGroup(Check check) {
        HeaderSchedule x = Scenes.started();
        check.ticks(x, 1, 0);
        x.write(3, 1);
        check.ticks(x, 2);
        for (int k = 0; k <= 9; k++) {
            check.none("bus(" + k + ")", x.bus(k));
        }
        check.due("the slot was one all the same", x.position(), 2);
        check.due("and is counted", x.count(2), 1);
        check.yes("frames of others are as they are", x.pending(3));
    }

    private static void eventHeader(Check check) {
        for (int event = 0; event < 60; event++) {
            HeaderSchedule x = Scenes.threeSlaves(event, true, 2, (event + 1) % 60, (event + 2) % 60, (event + 3) % 60);
            check.ticks(x, 2);
            check.bytes(x, Scenes.protect(event));
            x.write(1, 0);
            check.ticks(x, 1);
            int own = Scenes.protect((event + 2) % 60);
            int sum = Scenes.protect(event) + own;
            check.bytes(x, Scenes.protect(event), own, 0, 255 - (sum > 255 ? sum - 255 : sum));
        }
    }

    private static void everyPendingResponds(Check check) {
        int[] headers = {0xC1, 0x42, 0xC4};
        for (int set = 1; set < 8; set++) {
            HeaderSchedule x = apart();
            int together = 255;
            for (int i = 0; i < 3; i++) {
                if ((set >> i & 1) == 1) {
                    x.write(i, 5);
                    together &= headers[i];
                }
            }
            check.ticks(x, Integer.bitCount(set) == 1 ? 1 : 4);
            check.due("byte 0 of the set " + set, x.bus(1), together);
        }
    }

    private static void noneOfTheEvent(Check check) {
        HeaderSchedule x = apart();
        check.ticks(x, 2, 2);
        check.bytes(x, 0x03);
        check.due("no resolving run", x.position(), 1);
        for (int i = 0; i < 3; i++) {
            check.no("nothing is received", x.fresh(i));
        }
        HeaderSchedule single = new HeaderSchedule();
        single.frame(1, 1, 1, false);
        single.frame(2, 2, 1, false);
        single.event(3, 0, 1, NONE, 1);
        single.entry(0, 2, 0, 1);
        single.entry(1, 0, 0, 1);
        single.entry(1, 0, 1, 1);
        single.start(0);
        check.ticks(single, 2);
        check.bytes(single, 0x03);
        single.request(1);
        check.ticks(single, 1);
        check.bytes(single, 0xC1, 0xC1, 255 - 0xC1);
    }

    /** All sets of three identifiers, all three or two of them at once. */
    private static void zeroInEachBit(Check check) {
        for (int i = 0; i < 58; i++) {
            for (int j = i + 1; j < 59; j++) {
                for (int k = j + 1; k < 60; k++) {
                    together(check, i, j, k, true);
                    together(check, k, i, j, false);
                }
            }
        }
    }

    private static void together(Check check, int i, int j, int k, boolean third) {
        int event = 0;
        while (event == i || event == j || event == k) {
            event++;
        }
        HeaderSchedule x = Scenes.threeSlaves(event, false, 2, i, j, k);
        int[] headers = {Scenes.protect(i), Scenes.protect(j), Scenes.protect(k)};
        int senders = third ? 3 : 2;
        int on = 255;
        for (int s = 0; s < senders; s++) {
            x.write(s, 30 + s);
            on &= headers[s];
        }
        int goesOn = NONE;
        for (int s = 0; s < senders; s++) {
            goesOn = headers[s] == on ? s : goesOn;
        }
        String who = i + ", " + j + ", " + k + ", " + senders + " at once: ";
        check.due(who + "tick()", x.tick(), goesOn == NONE ? 4 : 1);
        check.due(who + "byte 0", x.bus(1), on);
        check.due(who + "byte 1", x.bus(2), goesOn == NONE ? NONE : 30 + goesOn);
        for (int s = 0; s < 3; s++) {
            check.due(who + "pending(" + s + ")", x.pending(s), s < senders && s != goesOn);
            check.due(who + "read(" + s + ")", x.read(s), s == goesOn ? 30 + s : 10 + s);
        }
    }

    /** Of 0x08 and 0xCA the first goes on; the zeros in the later bytes of the second are not on the bus. */
    private static void sendsNoFurtherBytes(Check check) {
        HeaderSchedule x = Scenes.threeSlaves(3, true, 8, 10, 8, 4);
        x.write(0, 0);
        x.write(1, 255);
        check.ticks(x, 1);
        check.bytes(x, 0x03, 0x08, 255, 255, 255, 255, 255, 255, 255, 255 - 0x0B);
        check.yes("the other is pending still", x.pending(0));
        check.no("the first is not", x.pending(1));
        check.due("read(0)", x.read(0), 10);
        check.due("read(1)", x.read(1), 255);
        check.no("fresh(0)", x.fresh(0));
        check.ticks(x, 1);
        check.bytes(x, 0x03, 0xCA, 0, 255, 255, 255, 255, 255, 255, 255 - 0xCD);
        check.due("read(0)", x.read(0), 0);
    }

    /** 0x08 is in 0x49 and in 0xCA: of all three one goes on. */
    private static void atMostOneGoesOn(Check check) {
        HeaderSchedule x = Scenes.threeSlaves(3, false, 3, 9, 10, 8);
        for (int i = 0; i < 3; i++) {
            x.write(i, i);
        }
        check.ticks(x, 1);
        check.bytes(x, 0x03, 0x08, 2, 255, 255 - (0x08 + 2));
        check.yes("the two others wait", x.pending(0) && x.pending(1));
        check.no("the one does not", x.pending(2));
        // 0x49 and 0xCA make 0x48 together, which is neither of them.
        check.ticks(x, 4);
        check.bytes(x, 0x03, 0x48);
    }

    private static void endsThere(Check check) {
        for (int length = 2; length <= 8; length++) {
            HeaderSchedule x = Scenes.threeSlaves(3, length % 2 == 0, length, 1, 2, 4);
            x.write(0, 1);
            x.write(1, 2);
            check.ticks(x, 4);
            check.bytes(x, 0x03, 0x40);
            for (int k = 2; k <= 9; k++) {
                check.none("bus(" + k + ")", x.bus(k));
            }
        }
        // 0x49 and 0x8E make 0x08 together: that of the third one, which does not send.
        HeaderSchedule third = Scenes.threeSlaves(3, false, 2, 8, 9, 14);
        third.write(1, 1);
        third.write(2, 2);
        check.ticks(third, 4);
        check.bytes(third, 0x03, 0x08);
        check.yes("both wait", third.pending(1) && third.pending(2));
        check.no("the third one is not received", third.fresh(0));
    }

    public static void main(String[] args) {
        Section section = new Section("Terms");
        section.sentence("A SLOT begins with a HEADER: a protected identifier.", TermsSlotsTest::beginsWithAHeader);
        section.sentence("A frame's slot: header with its protected identifier; its publisher responds.",
            TermsSlotsTest::frame);
        section.sentence("A sporadic group's slot: the first of its frames that is pending is sent as in its own slot.",
            TermsSlotsTest::asInItsOwnSlot);
        section.sentence("When none is, there is neither header nor response.", TermsSlotsTest::noneOfTheGroup);
        section.sentence("An event frame's slot: header with the event frame's protected identifier",
            TermsSlotsTest::eventHeader);
        section.sentence("the publisher of every associated frame that is pending responds.",
            TermsSlotsTest::everyPendingResponds);
        section.sentence("When none is, there is no response.", TermsSlotsTest::noneOfTheEvent);
        section.sentence("When several are, the bus has a 0 in each bit in which one of those that still send has a 0",
            TermsSlotsTest::zeroInEachBit);
        section.sentence("one whose byte differs from that of the bus sends no further bytes.",
            TermsSlotsTest::sendsNoFurtherBytes);
        section.sentence("(After the first byte at most one goes on.)", TermsSlotsTest::atMostOneGoesOn);
        section.sentence("When nobody sends any more the response ends there.", TermsSlotsTest::endsThere);
        section.end();
    }
}
