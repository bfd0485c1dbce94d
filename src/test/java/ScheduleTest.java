/** Promises 12, 14, 17, 18, 19: the ticks, the boundaries, requested tables, resolving runs, sleep and wake. */
public final class ScheduleTest {
    private static final int NONE = HeaderSchedule.NONE;
    private final Check check = new Check();

    private void places(HeaderSchedule x, String when, int table, int entry) {
        check.due("position() " + when, x.position(), 16 * table + entry);
    }

    private void placesResolving(HeaderSchedule x, String when, int table, int entry) {
        check.due("position() " + when, x.position(), 64 + 16 * table + entry);
    }

    /** Two frames; table 0: both, for 2 and 3 ticks; table 2: the second, for 20; table 1 is empty. */
    private static HeaderSchedule twoTables() {
        HeaderSchedule x = new HeaderSchedule();
        x.frame(8, 0, 1, false);
        x.frame(13, 1, 1, false);
        x.entry(0, 0, 0, 2);
        x.entry(0, 0, 1, 3);
        x.entry(2, 0, 1, 20);
        return x;
    }

    private void delays() {
        HeaderSchedule x = twoTables();
        check.ticks(x, NONE);
        places(x, "before start", 0, NONE);
        x.start(0);
        places(x, "after start", 0, 0);
        check.ticks(x, 1);
        places(x, "in the first slot", 0, 1);
        check.ticks(x, 0);
        places(x, "still", 0, 1);
        check.ticks(x, 1);
        check.due("the second", x.bus(0), 13);
        places(x, "all done", 0, 2);
        check.ticks(x, 0, 0);
        places(x, "all done, no boundary yet", 0, 2);
        check.ticks(x, 1);
        check.due("the first again", x.bus(0), 8);
        places(x, "round", 0, 1);
        check.ticks(x, 0, 1, 0, 0, 1);
        check.due("count(1)", x.count(1), 5);
    }

    private void longestDelay() {
        HeaderSchedule x = twoTables();
        x.start(2);
        for (int round = 0; round < 3; round++) {
            check.ticks(x, 1, 0, 0, 0, 0, 0, 0, 0, 0, 0, 0, 0, 0, 0, 0, 0, 0, 0, 0, 0);
            places(x, "one entry, done", 2, 1);
        }
    }

    private void requestArguments() {
        HeaderSchedule x = twoTables();
        check.no("not started", x.request(0));
        x.start(0);
        check.no("table -1", x.request(-1));
        check.no("table 3", x.request(3));
        check.no("an empty table", x.request(1));
        check.ticks(x, 1, 0, 1, 0, 0, 1);
        places(x, "refused ones change nothing", 0, 1);
        check.yes("request(2)", x.request(2));
        check.no("refused in its place", x.request(1));
        check.ticks(x, 0, 1);
        places(x, "the one before was begun", 2, 1);
    }

    private void requestWaitsForABoundary() {
        HeaderSchedule x = twoTables();
        x.start(0);
        check.ticks(x, 1);
        check.yes("request(2)", x.request(2));
        places(x, "not yet", 0, 1);
        check.ticks(x, 0);
        places(x, "not yet", 0, 1);
        check.ticks(x, 1);
        places(x, "begun, without the rest of table 0", 2, 1);
        check.yes("request(0)", x.request(0));
        check.yes("in its place", x.request(2));
        check.ticks(x, 0, 0, 0, 0, 0, 0, 0, 0, 0, 0, 0, 0, 0, 0, 0, 0, 0, 0, 0, 1);
        places(x, "the later one", 2, 1);
        check.ticks(x, 0, 0, 0, 0, 0, 0, 0, 0, 0, 0, 0, 0, 0, 0, 0, 0, 0, 0, 0, 1);
        places(x, "and no other", 2, 1);
    }

    private void requestOfThePresentTable() {
        HeaderSchedule x = twoTables();
        x.start(0);
        check.ticks(x, 1);
        check.yes("request(0)", x.request(0));
        check.ticks(x, 0, 1);
        check.due("the first again", x.bus(0), 8);
        places(x, "from its first", 0, 1);
        check.ticks(x, 0, 1);
        places(x, "done with", 0, 2);
        HeaderSchedule y = twoTables();
        y.start(0);
        check.yes("before the first tick", y.request(2));
        places(y, "not yet", 0, 0);
        check.ticks(y, 1);
        places(y, "begun", 2, 1);
    }

    private void sleepAndWake() {
        HeaderSchedule x = twoTables();
        check.no("sleep before start", x.sleep());
        check.no("wake before start", x.wake());
        x.start(0);
        check.no("wake when awake", x.wake());
        check.ticks(x, 1, 0, 1);
        check.yes("sleep", x.sleep());
        check.no("sleep again", x.sleep());
        check.ticks(x, NONE, NONE);
        places(x, "asleep", 0, 2);
        check.yes("request while asleep", x.request(0));
        check.due("nothing happened", x.count(1), 2);
        check.yes("wake", x.wake());
        check.no("wake again", x.wake());
        places(x, "no boundary yet", 0, 2);
        check.ticks(x, 1);
        check.due("cut off, not anew", x.bus(0), 8);
        check.yes("sleep in a slot", x.sleep());
        x.wake();
        check.ticks(x, 1);
        check.due("the next entry", x.bus(0), 13);
        check.ticks(x, 0, 0, 1);
    }

    private void sleepBeforeTheFirstTick() {
        HeaderSchedule x = twoTables();
        x.start(0);
        check.yes("sleep", x.sleep());
        check.ticks(x, NONE);
        check.yes("request while asleep", x.request(2));
        x.wake();
        check.ticks(x, 1);
        places(x, "what was requested", 2, 1);
    }

    /**
     * Frames 0 and 1 of slaves 1 and 2 with signals 0 and 1, an event frame of them, frame 2 of the master.
     * Table 0: the event frame for 2 ticks, frame 2 for 1; table 1 resolves: frame 0 for 1, frame 1 for 2;
     * table 2: frame 2 for 1, the event frame for 1.
     */
    private static HeaderSchedule colliding() {
        HeaderSchedule x = new HeaderSchedule();
        x.frame(1, 1, 2, false);
        x.frame(2, 2, 2, false);
        x.frame(8, 0, 1, false);
        x.signal(0, 8, 8, 1);
        x.signal(1, 8, 8, 2);
        x.event(3, 0, 1, NONE, 1);
        x.entry(0, 2, 0, 2);
        x.entry(0, 0, 2, 1);
        x.entry(1, 0, 0, 1);
        x.entry(1, 0, 1, 2);
        x.entry(2, 0, 2, 1);
        x.entry(2, 2, 0, 1);
        return x;
    }

    private static void writeBoth(HeaderSchedule x) {
        x.write(0, 5);
        x.write(1, 6);
    }

    private void resolvingRun() {
        HeaderSchedule x = colliding();
        x.start(0);
        writeBoth(x);
        check.ticks(x, 4, 0);
        places(x, "not before the boundary", 0, 1);
        check.ticks(x, 1);
        placesResolving(x, "begun", 1, 1);
        check.ticks(x, 1, 0);
        placesResolving(x, "all done", 1, 2);
        check.ticks(x, 1);
        places(x, "where it was", 0, 2);
        check.due("the entry behind the event frame", x.bus(0), 8);
        check.ticks(x, 2);
        places(x, "no other run", 0, 1);
    }

    private void resolvingRunFromTheLastEntry() {
        HeaderSchedule x = colliding();
        x.start(2);
        writeBoth(x);
        check.ticks(x, 1, 4);
        places(x, "all done", 2, 2);
        check.ticks(x, 1, 1, 0);
        placesResolving(x, "all done", 1, 2);
        check.ticks(x, 1);
        places(x, "back, and round", 2, 1);
    }

    private void requestWaitsForTheRun() {
        HeaderSchedule x = colliding();
        x.start(0);
        writeBoth(x);
        check.ticks(x, 4);
        check.yes("request(2)", x.request(2));
        check.ticks(x, 0, 1);
        placesResolving(x, "goes first", 1, 1);
        check.ticks(x, 1, 0);
        placesResolving(x, "still waits", 1, 2);
        check.ticks(x, 1);
        places(x, "begun in place of what was kept aside", 2, 1);
        check.due("count(4)", x.count(4), 1);
    }

    private void requestOfTheResolvingTable() {
        HeaderSchedule x = colliding();
        x.start(0);
        writeBoth(x);
        check.ticks(x, 4, 0, 1);
        check.yes("request(1)", x.request(1));
        check.ticks(x, 1, 0, 1);
        places(x, "as an ordinary table", 1, 1);
        check.ticks(x, 1, 0, 1);
        places(x, "round", 1, 1);
    }

    private void notValidInARun() {
        HeaderSchedule x = colliding();
        x.start(0);
        writeBoth(x);
        check.ticks(x, 4, 0);
        x.noise(0, 1);
        check.ticks(x, 3, 1, 0, 1);
        places(x, "over all the same", 0, 2);
        check.yes("still pending", x.pending(0));
        check.ticks(x, 1);
        check.due("now without the other", x.read(0), 5);
    }

    private void runAfterRun() {
        HeaderSchedule x = colliding();
        x.start(0);
        for (int round = 0; round < 3; round++) {
            writeBoth(x);
            check.ticks(x, 4, 0, 1, 1, 0, 1);
            places(x, "round " + round, 0, 2);
        }
        check.due("count(4)", x.count(4), 3);
        check.due("count(1)", x.count(1), 9);
    }

    private void sleepBeforeARun() {
        HeaderSchedule x = colliding();
        x.start(0);
        writeBoth(x);
        check.ticks(x, 4);
        x.sleep();
        x.request(2);
        places(x, "asleep", 0, 1);
        x.wake();
        check.ticks(x, 1);
        placesResolving(x, "begun after waking", 1, 1);
        x.sleep();
        placesResolving(x, "asleep in it", 1, 1);
        x.wake();
        check.ticks(x, 1);
        x.sleep();
        x.wake();
        placesResolving(x, "no boundary yet", 1, 2);
        check.ticks(x, 1);
        places(x, "over, and what was requested", 2, 1);
    }

    public static void main(String[] args) {
        ScheduleTest test = new ScheduleTest();
        test.delays();
        test.longestDelay();
        test.requestArguments();
        test.requestWaitsForABoundary();
        test.requestOfThePresentTable();
        test.sleepAndWake();
        test.sleepBeforeTheFirstTick();
        test.resolvingRun();
        test.resolvingRunFromTheLastEntry();
        test.requestWaitsForTheRun();
        test.requestOfTheResolvingTable();
        test.notValidInARun();
        test.runAfterRun();
        test.sleepBeforeARun();
        test.check.end();
    }
}
