/** The section Terms, the paragraphs on the schedule, sentence by sentence. */
public final class TermsScheduleTest {
    private static final int NONE = HeaderSchedule.NONE;

    /**
     * Frames 0 and 1 (headers 0xC1, 0x42) of two slaves with signals 0 and 1, event frame 0 (0x03) of both; frames 2
     * and 3 (0x08, 0x0D) of the master. Table 0: frame 2 for 1 tick, the event frame for 2, frame 3 for 1. Table 1
     * resolves: frame 1 for 1, frame 0 for 2, frame 2 for 1. Table 2: the event frame for 1. Not started.
     */
    private static HeaderSchedule bus() {
        HeaderSchedule x = new HeaderSchedule();
        x.frame(1, 1, 2, false);
        x.frame(2, 2, 2, false);
        x.frame(8, 0, 1, false);
        x.frame(13, 0, 1, false);
        x.signal(0, 8, 8, 1);
        x.signal(1, 8, 8, 2);
        x.event(3, 0, 1, NONE, 1);
        x.entry(0, 0, 2, 1);
        x.entry(0, 2, 0, 2);
        x.entry(0, 0, 3, 1);
        x.entry(1, 0, 1, 1);
        x.entry(1, 0, 0, 2);
        x.entry(1, 0, 2, 1);
        x.entry(2, 2, 0, 1);
        return x;
    }

    private static HeaderSchedule started(int table) {
        HeaderSchedule x = bus();
        x.start(table);
        return x;
    }

    private static void writeBoth(HeaderSchedule x) {
        x.write(0, 5);
        x.write(1, 6);
    }

    /** Table 0, in the slot of the event frame, in which both collided; one tick of it is left. */
    private static HeaderSchedule collided(Check check) {
        HeaderSchedule x = started(0);
        writeBoth(x);
        check.ticks(x, 1, 4);
        return x;
    }

    private static void at(Check check, HeaderSchedule x, int table, int next, int header) {
        check.due("position()", x.position(), 16 * table + next);
        check.due("header", x.bus(0), header);
    }

    private static void atResolving(Check check, HeaderSchedule x, int next, int header) {
        check.due("position() in a resolving run", x.position(), 64 + 16 + next);
        check.due("header", x.bus(0), header);
    }

    /** The three slots of table 1 when nothing disturbs them. */
    private static void resolves(Check check, HeaderSchedule x) {
        check.ticks(x, 1);
        atResolving(check, x, 1, 0x42);
        check.ticks(x, 1);
        atResolving(check, x, 2, 0xC1);
        check.ticks(x, 0);
        atResolving(check, x, 2, 0xC1);
        check.ticks(x, 1);
        atResolving(check, x, 3, 0x08);
    }

    private static void start(Check check) {
        int[] headers = {0x08, 0x42, 0x03};
        for (int table = 0; table < 3; table++) {
            HeaderSchedule x = bus();
            check.yes("start(" + table + ")", x.start(table));
            check.due("position()", x.position(), 16 * table);
            check.ticks(x, table == 2 ? 2 : 1);
            at(check, x, table, 1, headers[table]);
        }
    }

    /** A request shows where the boundaries are. */
    private static void noSlotUnderWay(Check check) {
        for (int delay = 1; delay <= 20; delay++) {
            HeaderSchedule x = new HeaderSchedule();
            x.frame(8, 0, 1, false);
            x.frame(13, 0, 1, false);
            x.entry(0, 0, 0, delay);
            x.entry(0, 0, 0, 1);
            x.entry(1, 0, 1, 1);
            x.start(0);
            check.ticks(x, 1);
            x.request(1);
            for (int i = 1; i < delay; i++) {
                check.ticks(x, 0);
                at(check, x, 0, 1, 0x08);
            }
            check.ticks(x, 1);
            at(check, x, 1, 1, 0x0D);
        }
    }

    private static void firstTickAfterStart(Check check) {
        HeaderSchedule x = started(0);
        x.request(2);
        check.due("not before", x.position(), 0);
        check.ticks(x, 2);
        at(check, x, 2, 1, 0x03);
    }

    private static void firstTickAfterWake(Check check) {
        HeaderSchedule x = started(0);
        check.ticks(x, 1, 2);
        x.sleep();
        x.wake();
        check.ticks(x, 1);
        at(check, x, 0, 3, 0x0D);
        HeaderSchedule y = started(0);
        check.ticks(y, 1, 2);
        y.sleep();
        y.request(2);
        y.wake();
        check.ticks(y, 2);
        at(check, y, 2, 1, 0x03);
    }

    private static void resolvingRun(Check check) {
        HeaderSchedule x = collided(check);
        at(check, x, 0, 2, 0x03);
        check.ticks(x, 0);
        at(check, x, 0, 2, 0x03);
        resolves(check, x);
        check.ticks(x, 1);
        at(check, x, 0, 3, 0x0D);
        HeaderSchedule noisy = started(0);
        noisy.write(0, 5);
        check.ticks(noisy, 1);
        noisy.noise(1, 1);
        check.ticks(noisy, 4, 0);
        resolves(check, noisy);
    }

    private static void thereWasNone(Check check) {
        HeaderSchedule silent = started(0);
        check.ticks(silent, 1, 2, 0, 1);
        at(check, silent, 0, 3, 0x0D);
        HeaderSchedule valid = started(0);
        valid.write(1, 9);
        check.ticks(valid, 1, 1, 0, 1);
        at(check, valid, 0, 3, 0x0D);
    }

    private static void latestSlotWasAnEventFrames(Check check) {
        HeaderSchedule x = started(0);
        x.noise(0, 1);
        check.ticks(x, 3, 2, 0);
        x.noise(1, 1);
        check.ticks(x, 3, 1);
        at(check, x, 0, 1, 0x08);
        HeaderSchedule own = started(1);
        own.write(1, 7);
        own.noise(0, 1);
        check.ticks(own, 3, 1);
        at(check, own, 1, 2, 0xC1);
        // A run is not begun again for a slot that was resolved.
        HeaderSchedule once = collided(check);
        check.ticks(once, 0, 1, 1, 0, 1, 1, 1, 2, 0, 1);
        at(check, once, 0, 3, 0x0D);
        check.due("count(4)", once.count(4), 1);
    }

    private static void keptAsideAtTheEnd(Check check) {
        HeaderSchedule x = started(2);
        writeBoth(x);
        check.ticks(x, 4);
        at(check, x, 2, 1, 0x03);
        resolves(check, x);
        check.ticks(x, 2);
        at(check, x, 2, 1, 0x03);
        check.ticks(x, 2);
        at(check, x, 2, 1, 0x03);
    }

    private static void allEntriesOfARunDone(Check check) {
        HeaderSchedule x = collided(check);
        check.ticks(x, 0, 1, 1, 0, 1);
        atResolving(check, x, 3, 0x08);
        check.ticks(x, 1);
        at(check, x, 0, 3, 0x0D);
        HeaderSchedule eight = bus();
        for (int i = 0; i < 5; i++) {
            eight.entry(1, 0, 3, 1);
        }
        eight.start(2);
        writeBoth(eight);
        check.ticks(eight, 4, 1, 1, 0, 1, 1, 1, 1, 1, 1);
        atResolving(check, eight, 8, 0x0D);
        check.ticks(eight, 2);
        at(check, eight, 2, 1, 0x03);
    }

    /** A run is over when its entries were done, whatever became of their responses. */
    private static void notValidInARun(Check check) {
        HeaderSchedule x = collided(check);
        check.ticks(x, 0);
        x.noise(0, 1);
        check.ticks(x, 3);
        atResolving(check, x, 1, 0x42);
        x.noise(0, 1);
        check.ticks(x, 3, 0, 1);
        atResolving(check, x, 3, 0x08);
        check.ticks(x, 1);
        at(check, x, 0, 3, 0x0D);
        check.yes("both are pending still", x.pending(0) && x.pending(1));
        check.ticks(x, 1, 4);
        check.due("count(4)", x.count(4), 2);
        check.ticks(x, 0, 1, 1);
        check.no("resolved the second time", x.pending(0) || x.pending(1));
    }

    /** The slot right behind a run collides again: at the next boundary another run begins. */
    private static void runAfterRun(Check check) {
        HeaderSchedule x = started(2);
        for (int round = 0; round < 3; round++) {
            writeBoth(x);
            check.ticks(x, 4);
            at(check, x, 2, 1, 0x03);
            resolves(check, x);
        }
        writeBoth(x);
        check.ticks(x, 4);
        at(check, x, 2, 1, 0x03);
        check.due("count(4)", x.count(4), 4);
    }

    private static void requested(Check check) {
        HeaderSchedule x = started(0);
        check.ticks(x, 1);
        x.request(1);
        check.ticks(x, 1);
        at(check, x, 1, 1, 0x42);
        check.ticks(x, 1, 0, 1, 1);
        at(check, x, 1, 1, 0x42);
        x.request(0);
        check.ticks(x, 1);
        at(check, x, 0, 1, 0x08);
        check.ticks(x, 2, 0, 1, 1);
        at(check, x, 0, 1, 0x08);
    }

    /** Requested before the event frame's slot ends, in it, and in the run: the run goes first each time. */
    private static void requestMadeMeanwhile(Check check) {
        for (int when = 0; when < 5; when++) {
            HeaderSchedule x = collided(check);
            int[] answers = {0, 1, 1, 0, 1};
            for (int i = 0; i < answers.length; i++) {
                if (i == when) {
                    check.yes("request(2)", x.request(2));
                }
                check.ticks(x, answers[i]);
            }
            atResolving(check, x, 3, 0x08);
            check.ticks(x, 2);
            at(check, x, 2, 1, 0x03);
            check.ticks(x, 2);
            at(check, x, 2, 1, 0x03);
        }
        HeaderSchedule last = collided(check);
        check.ticks(last, 0, 1, 1, 0, 1);
        last.request(2);
        check.ticks(last, 2);
        at(check, last, 2, 1, 0x03);
    }

    /** Table 0 itself is requested in the run: it begins anew and not where it was left. */
    private static void requestOfWhatWasKeptAside(Check check) {
        HeaderSchedule x = collided(check);
        check.ticks(x, 0, 1);
        x.request(0);
        check.ticks(x, 1, 0, 1, 1);
        at(check, x, 0, 1, 0x08);
        check.ticks(x, 2, 0, 1);
        at(check, x, 0, 3, 0x0D);
    }

    /** The resolving table itself is requested in the run: after the run it is a table as any other. */
    private static void requestOfTheResolvingTable(Check check) {
        HeaderSchedule x = collided(check);
        check.ticks(x, 0, 1);
        x.request(1);
        check.ticks(x, 1, 0, 1, 1);
        at(check, x, 1, 1, 0x42);
        check.ticks(x, 1, 0, 1);
        at(check, x, 1, 3, 0x08);
        check.ticks(x, 1);
        at(check, x, 1, 1, 0x42);
    }

    private static void firstIsNextAgain(Check check) {
        for (int many = 1; many <= 8; many++) {
            HeaderSchedule x = new HeaderSchedule();
            x.frame(8, 0, 1, false);
            x.frame(13, 0, 1, false);
            for (int i = 0; i < many; i++) {
                x.entry(2, 0, i == 0 ? 0 : 1, 1);
            }
            x.start(2);
            for (int tick = 0; tick < 3 * many; tick++) {
                check.ticks(x, 1);
                at(check, x, 2, 1 + tick % many, tick % many == 0 ? 0x08 : 0x0D);
            }
        }
    }

    /** Two of the four things are due at one boundary: which one shows, and what becomes of the other. */
    private static void inThisOrder(Check check) {
        HeaderSchedule oneAndThree = started(2);
        writeBoth(oneAndThree);
        check.ticks(oneAndThree, 4);
        oneAndThree.request(0);
        resolves(check, oneAndThree);
        check.ticks(oneAndThree, 1);
        at(check, oneAndThree, 0, 1, 0x08);

        HeaderSchedule twoAndFour = started(2);
        writeBoth(twoAndFour);
        check.ticks(twoAndFour, 4);
        resolves(check, twoAndFour);
        check.ticks(twoAndFour, 2);
        at(check, twoAndFour, 2, 1, 0x03);

        HeaderSchedule threeAndFour = started(0);
        check.ticks(threeAndFour, 1, 2, 0, 1);
        at(check, threeAndFour, 0, 3, 0x0D);
        threeAndFour.request(1);
        check.ticks(threeAndFour, 1);
        at(check, threeAndFour, 1, 1, 0x42);
    }

    private static void allOfItAtThisTick(Check check) {
        HeaderSchedule x = Scenes.started();
        x.write(0, 33);
        check.ticks(x, 1);
        check.due("received", x.read(0), 33);
        check.no("not pending", x.pending(0));
        check.due("counted", x.count(1), 1);
        check.due("the entry behind it is next", x.position(), 1);
        x.write(0, 44);
        check.ticks(x, 0);
        check.due("written in the slot: too late for it", x.read(0), 33);
        check.yes("pending", x.pending(0));
        check.ticks(x, 1);
        check.due("sent by the group", x.read(0), 44);
    }

    private static void thisOneIncluded(Check check) {
        HeaderSchedule x = new HeaderSchedule();
        x.frame(8, 0, 1, false);
        x.entry(0, 0, 0, 1);
        x.entry(0, 0, 0, 2);
        x.entry(0, 0, 0, 20);
        x.start(0);
        check.ticks(x, 1, 1, 0, 1, 0, 0, 0, 0, 0, 0, 0, 0, 0, 0, 0, 0, 0, 0, 0, 0, 0, 0, 0, 1, 1, 0, 1, 0);
        check.due("count(1)", x.count(1), 6);
    }

    private static void sleepInARun(Check check) {
        HeaderSchedule before = collided(check);
        before.sleep();
        check.ticks(before, NONE);
        at(check, before, 0, 2, 0x03);
        before.wake();
        resolves(check, before);
        HeaderSchedule inside = collided(check);
        check.ticks(inside, 0, 1, 1);
        inside.sleep();
        atResolving(check, inside, 2, 0xC1);
        inside.wake();
        check.ticks(inside, 1);
        atResolving(check, inside, 3, 0x08);
        inside.sleep();
        inside.request(2);
        inside.wake();
        atResolving(check, inside, 3, 0x08);
        check.ticks(inside, 2);
        at(check, inside, 2, 1, 0x03);
    }

    private static void boundaries(Section section) {
        section.sentence("start() makes a table the present one, with its first entry next.", TermsScheduleTest::start);
        section.sentence("A tick at which no slot is under way is a BOUNDARY", TermsScheduleTest::noSlotUnderWay);
        section.sentence("so is the first tick after start()", TermsScheduleTest::firstTickAfterStart);
        section.sentence("so is the first tick -- after wake()", TermsScheduleTest::firstTickAfterWake);
        section.sentence("At a boundary, in this order", TermsScheduleTest::inThisOrder);
        section.sentence("(4) when all entries of the present table were done, its first is next again.",
            TermsScheduleTest::firstIsNextAgain);
        section.sentence("Then the slot of the next entry begins: all of it happens at this tick, the entry behind it"
            + " is next", TermsScheduleTest::allOfItAtThisTick);
        section.sentence("the slot is under way for as many ticks as its delay says, this one included.",
            TermsScheduleTest::thisOneIncluded);
    }

    private static void runs(Section section) {
        section.sentence("(1) when the latest slot was an event frame's and its response -- was not valid, the present"
            + " table and its next entry are kept aside and the event frame's resolving table becomes the present one,"
            + " with its first entry next: a RESOLVING RUN", TermsScheduleTest::resolvingRun);
        section.sentence("its response (there was one) was not valid", TermsScheduleTest::thereWasNone);
        section.sentence("when the latest slot was an event frame's", TermsScheduleTest::latestSlotWasAnEventFrames);
        section.sentence("the present table and its next entry are kept aside", TermsScheduleTest::keptAsideAtTheEnd);
        section.sentence("(2) otherwise, when a resolving run is under way and all entries of its table were done, it"
            + " is over, and what was kept aside is present and next again", TermsScheduleTest::allEntriesOfARunDone);
        section.sentence("all entries of its table were done, it is over", TermsScheduleTest::notValidInARun);
        section.sentence("what was kept aside is present and next again", TermsScheduleTest::runAfterRun);
        section.sentence("a RESOLVING RUN", TermsScheduleTest::sleepInARun);
    }

    private static void requests(Section section) {
        section.sentence("(3) when -- a table was requested, that table becomes the present one with its first entry"
            + " next, and the request is done with", TermsScheduleTest::requested);
        section.sentence("(3) when no resolving run is under way", TermsScheduleTest::requestMadeMeanwhile);
        section.sentence("that table becomes the present one with its first entry next",
            TermsScheduleTest::requestOfWhatWasKeptAside);
        section.sentence("when no resolving run is under way and a table was requested, that table becomes the present"
            + " one", TermsScheduleTest::requestOfTheResolvingTable);
    }

    public static void main(String[] args) {
        Section section = new Section("Terms");
        boundaries(section);
        runs(section);
        requests(section);
        section.end();
    }
}
