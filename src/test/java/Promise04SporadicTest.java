/** Promise 4, sentence by sentence. */
public final class Promise04SporadicTest {
    private static final int NONE = HeaderSchedule.NONE;

    /** Frames 0, 1, 2 of the master (headers 0x08, 0x0D, 0x11) and 3, 4, 5 of the slaves 1, 2, 3; a signal in each. */
    private static HeaderSchedule sixFrames() {
        HeaderSchedule x = new HeaderSchedule();
        int[] identifiers = {8, 13, 17, 20, 21, 22};
        for (int i = 0; i < 6; i++) {
            x.frame(identifiers[i], Math.max(0, i - 2), 1, false);
            x.signal(i, 0, 8, i);
        }
        return x;
    }

    private static void writeTheMasters(HeaderSchedule x) {
        for (int i = 0; i < 3; i++) {
            x.write(i, 1);
        }
    }

    private static void ofThree(Check check) {
        int[] headers = {0x08, 0x0D, 0x11};
        int[][] orders = {{0, 1, 2}, {0, 2, 1}, {1, 0, 2}, {1, 2, 0}, {2, 0, 1}, {2, 1, 0}};
        for (int[] order : orders) {
            HeaderSchedule x = sixFrames();
            check.due("a group", x.sporadic(order[0], order[1], order[2]), 0);
            x.entry(0, 1, 0, 1);
            x.start(0);
            writeTheMasters(x);
            for (int f : order) {
                check.ticks(x, 1);
                check.due("header of frame " + f, x.bus(0), headers[f]);
            }
            check.ticks(x, 2);
        }
    }

    private static void ofTwo(Check check) {
        HeaderSchedule x = sixFrames();
        check.due("a group", x.sporadic(2, 1, NONE), 0);
        x.entry(0, 1, 0, 1);
        x.start(0);
        writeTheMasters(x);
        check.ticks(x, 1);
        check.due("the first", x.bus(0), 0x11);
        check.ticks(x, 1);
        check.due("the second", x.bus(0), 0x0D);
        check.ticks(x, 2);
        check.yes("frame 0 is not in the group", x.pending(0));
    }

    private static void number(Check check) {
        HeaderSchedule x = sixFrames();
        check.no("no group 0", x.entry(0, 1, 0, 1));
        check.due("the first", x.sporadic(0, 1, NONE), 0);
        check.no("no group 1", x.entry(0, 1, 1, 1));
        check.due("the second, of the same frames", x.sporadic(1, 0, NONE), 1);
        check.yes("entry of group 1", x.entry(0, 1, 1, 1));
        x.start(0);
        writeTheMasters(x);
        check.ticks(x, 1);
        check.due("the first of group 1", x.bus(0), 0x0D);
    }

    private static void started(Check check) {
        check.due("before start", Scenes.made().sporadic(1, 0, NONE), 1);
        Twins twins = new Twins(check, Scenes::started, Scenes::running, Scenes::resolving, Scenes::asleep);
        twins.none("sporadic(1, 0, NONE)", x -> x.sporadic(1, 0, NONE));
    }

    private static HeaderSchedule twoGroups() {
        HeaderSchedule x = sixFrames();
        x.sporadic(0, 1, 2);
        x.sporadic(2, 1, NONE);
        x.entry(0, 1, 0, 1);
        x.entry(0, 1, 1, 1);
        return x;
    }

    private static void twoAreThere(Check check) {
        HeaderSchedule x = sixFrames();
        check.due("one", x.sporadic(0, 1, 2), 0);
        check.due("two", x.sporadic(2, 1, NONE), 1);
        check.none("three", x.sporadic(0, 2, NONE));
        check.no("no group 2", x.entry(0, 1, 2, 1));
        new Twins(check, Promise04SporadicTest::twoGroups).none("the third", y -> y.sporadic(0, 2, NONE));
    }

    private static void doesNotExist(Check check) {
        Twins twins = new Twins(check, Promise04SporadicTest::sixFrames);
        for (int f : new int[] {6, 7, 8, -2, Integer.MIN_VALUE, Integer.MAX_VALUE}) {
            twins.none("a is " + f, x -> x.sporadic(f, 1, 2));
            twins.none("b is " + f, x -> x.sporadic(0, f, 2));
            twins.none("c is " + f, x -> x.sporadic(0, 1, f));
            twins.none("b of two is " + f, x -> x.sporadic(0, f, NONE));
        }
        twins.none("a is NONE", x -> x.sporadic(NONE, 1, 2));
        twins.none("b is NONE", x -> x.sporadic(0, NONE, 2));
        twins.none("a and c are NONE", x -> x.sporadic(NONE, 0, NONE));
        twins.none("b and c are NONE", x -> x.sporadic(0, NONE, NONE));
        twins.none("all are NONE", x -> x.sporadic(NONE, NONE, NONE));
        new Twins(check, Scenes::fresh).none("there is no frame", x -> x.sporadic(0, 1, NONE));
        HeaderSchedule x = sixFrames();
        check.none("frame 6 is not there yet", x.sporadic(0, 1, 6));
        x.frame(30, 0, 8, true);
        check.due("now it is, and the group is the first", x.sporadic(0, 1, 6), 0);
    }

    private static void notOfTheMaster(Check check) {
        Twins twins = new Twins(check, Promise04SporadicTest::sixFrames);
        for (int f = 3; f <= 5; f++) {
            int slaves = f;
            twins.none("a is of slave " + (f - 2), x -> x.sporadic(slaves, 1, 2));
            twins.none("b is of slave " + (f - 2), x -> x.sporadic(0, slaves, 2));
            twins.none("c is of slave " + (f - 2), x -> x.sporadic(0, 1, slaves));
            twins.none("b of two is of slave " + (f - 2), x -> x.sporadic(0, slaves, NONE));
        }
        check.due("all of node 0", sixFrames().sporadic(0, 1, 2), 0);
    }

    private static void theSame(Check check) {
        Twins twins = new Twins(check, Promise04SporadicTest::sixFrames);
        twins.none("a and b", x -> x.sporadic(1, 1, 2));
        twins.none("a and c", x -> x.sporadic(1, 2, 1));
        twins.none("b and c", x -> x.sporadic(2, 1, 1));
        twins.none("all three", x -> x.sporadic(0, 0, 0));
        twins.none("a and b of two", x -> x.sporadic(2, 2, NONE));
        HeaderSchedule x = sixFrames();
        check.none("refused", x.sporadic(1, 1, 2));
        check.due("the first group", x.sporadic(0, 1, 2), 0);
    }

    public static void main(String[] args) {
        Section section = new Section("Promise 4: sporadic");
        section.sentence("Makes a sporadic group of the frames a, b and c", Promise04SporadicTest::ofThree);
        section.sentence("or of a and b alone when c is NONE", Promise04SporadicTest::ofTwo);
        section.sentence("its number among the groups", Promise04SporadicTest::number);
        section.sentence("NONE when started", Promise04SporadicTest::started);
        section.sentence("two are there", Promise04SporadicTest::twoAreThere);
        section.sentence("one of the frames does not exist", Promise04SporadicTest::doesNotExist);
        section.sentence("one of the frames -- is not published by node 0", Promise04SporadicTest::notOfTheMaster);
        section.sentence("two of them are the same", Promise04SporadicTest::theSame);
        section.end();
    }
}
