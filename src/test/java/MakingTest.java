/** Promises 1 to 7: a new object, and what can be made before it is started. */
public final class MakingTest {
    private static final int NONE = HeaderSchedule.NONE;
    private final Check check = new Check();

    private void newObject() {
        HeaderSchedule x = new HeaderSchedule();
        check.no("pending(0)", x.pending(0));
        check.due("read(0)", x.read(0), NONE);
        check.no("fresh(0)", x.fresh(0));
        check.no("write(0, 0)", x.write(0, 0));
        for (int table = -1; table <= 3; table++) {
            check.no("start of an empty table", x.start(table));
            check.no("request before start", x.request(table));
        }
        for (int kind = -1; kind <= 3; kind++) {
            check.no("entry of kind " + kind, x.entry(0, kind, 0, 1));
        }
        check.due("tick()", x.tick(), NONE);
        check.due("bus(0)", x.bus(0), NONE);
        check.due("position()", x.position(), NONE);
        check.no("sleep()", x.sleep());
        check.no("wake()", x.wake());
        for (int answer = 1; answer <= 4; answer++) {
            check.due("count(" + answer + ")", x.count(answer), 0);
        }
    }

    private void frameArguments() {
        HeaderSchedule x = new HeaderSchedule();
        check.due("identifier -1", x.frame(-1, 0, 1, true), NONE);
        check.due("identifier 60", x.frame(60, 0, 1, true), NONE);
        check.due("least identifier", x.frame(Integer.MIN_VALUE, 0, 1, true), NONE);
        check.due("publisher -1", x.frame(1, -1, 1, true), NONE);
        check.due("publisher 4", x.frame(1, 4, 1, true), NONE);
        check.due("length 0", x.frame(1, 0, 0, true), NONE);
        check.due("length 9", x.frame(1, 0, 9, true), NONE);
        check.due("first frame", x.frame(0, 0, 1, true), 0);
        check.due("last identifier", x.frame(59, 3, 8, false), 1);
        check.due("borne by a frame", x.frame(0, 1, 2, false), NONE);
        check.due("refused before, now free", x.frame(1, 1, 2, true), 2);
        check.due("another", x.frame(2, 2, 2, true), 3);
        check.due("event", x.event(30, 2, 3, NONE, 0), 0);
        check.due("borne by an event frame", x.frame(30, 0, 1, true), NONE);
    }

    private void eightFrames() {
        HeaderSchedule x = new HeaderSchedule();
        for (int i = 0; i < 8; i++) {
            check.due("frame " + i, x.frame(10 + i, i % 4, 1, false), i);
        }
        check.due("the ninth frame", x.frame(40, 0, 1, false), NONE);
        check.no("no frame 8", x.entry(0, 0, 8, 1));
    }

    private void nothingIsMadeAfterStart() {
        HeaderSchedule x = new HeaderSchedule();
        x.frame(1, 0, 2, false);
        x.frame(2, 0, 2, false);
        x.frame(3, 1, 2, false);
        x.frame(4, 2, 2, false);
        check.yes("entry", x.entry(0, 0, 0, 1));
        check.yes("start", x.start(0));
        check.due("frame", x.frame(5, 0, 1, false), NONE);
        check.due("signal", x.signal(0, 0, 1, 0), NONE);
        check.due("sporadic", x.sporadic(0, 1, NONE), NONE);
        check.due("event", x.event(6, 2, 3, NONE, 1), NONE);
        check.no("entry", x.entry(0, 0, 0, 1));
        check.no("start again", x.start(0));
    }

    private void signalBits() {
        HeaderSchedule x = new HeaderSchedule();
        x.frame(1, 1, 3, false);
        x.frame(2, 1, 8, false);
        check.due("no such frame", x.signal(2, 0, 1, 0), NONE);
        check.due("frame -1", x.signal(-1, 0, 1, 0), NONE);
        check.due("width 0", x.signal(0, 0, 0, 0), NONE);
        check.due("width 17", x.signal(0, 0, 17, 0), NONE);
        check.due("width -1", x.signal(0, 4, -1, 0), NONE);
        check.due("offset -1", x.signal(0, -1, 4, 0), NONE);
        check.due("one bit too far", x.signal(0, 9, 16, 0), NONE);
        check.due("all outside", x.signal(0, 24, 1, 0), NONE);
        check.due("offset that wraps round", x.signal(0, Integer.MAX_VALUE, 16, 0), NONE);
        check.due("least offset", x.signal(0, Integer.MIN_VALUE, 16, 0), NONE);
        check.due("value -1", x.signal(0, 0, 4, -1), NONE);
        check.due("value too big", x.signal(0, 0, 4, 16), NONE);
        check.due("value 65536", x.signal(0, 8, 16, 65536), NONE);
        check.due("up to the last bit", x.signal(0, 8, 16, 65535), 0);
        check.due("read(0)", x.read(0), 65535);
        check.due("common lowest bit", x.signal(0, 7, 2, 0), NONE);
        check.due("common highest bit", x.signal(0, 23, 1, 0), NONE);
        check.due("inside the other", x.signal(0, 12, 2, 0), NONE);
        check.due("beside the other", x.signal(0, 7, 1, 1), 1);
        check.due("in the first of two", x.signal(0, 20, 2, 0), NONE);
        check.due("around another", x.signal(0, 6, 3, 1), NONE);
        check.due("same bits, other frame", x.signal(1, 8, 16, 1), 2);
        check.due("the last bits of 64", x.signal(1, 48, 16, 40000), 3);
        check.due("beyond 64", x.signal(1, 56, 9, 0), NONE);
        check.no("a new signal is not fresh", x.fresh(0));
        check.no("nor its frame pending", x.pending(0));
    }

    private void sixteenSignals() {
        HeaderSchedule x = new HeaderSchedule();
        x.frame(1, 1, 8, false);
        for (int i = 0; i < 16; i++) {
            check.due("signal " + i, x.signal(0, i, 1, i % 2), i);
        }
        check.due("the seventeenth", x.signal(0, 20, 1, 0), NONE);
    }

    private void signalOfAssociatedFrame() {
        HeaderSchedule x = new HeaderSchedule();
        x.frame(1, 1, 2, false);
        x.frame(2, 2, 2, false);
        check.due("before it is associated", x.signal(1, 8, 4, 1), 0);
        x.event(3, 0, 1, NONE, 1);
        check.due("in byte 0", x.signal(0, 0, 1, 0), NONE);
        check.due("with its first bit in byte 0", x.signal(1, 7, 2, 0), NONE);
        check.due("on the signal from before", x.signal(1, 11, 2, 0), NONE);
        check.due("beside it", x.signal(1, 12, 4, 0), 1);
        check.due("from bit 8 on", x.signal(0, 8, 8, 3), 2);
        check.due("one bit too far", x.signal(1, 9, 8, 0), NONE);
    }

    private void sporadicArguments() {
        HeaderSchedule x = new HeaderSchedule();
        x.frame(1, 0, 1, false);
        x.frame(2, 0, 2, true);
        x.frame(3, 0, 3, false);
        x.frame(4, 1, 1, false);
        check.due("a a slave's", x.sporadic(3, 0, 1), NONE);
        check.due("b a slave's", x.sporadic(0, 3, 1), NONE);
        check.due("c a slave's", x.sporadic(0, 1, 3), NONE);
        check.due("a does not exist", x.sporadic(4, 0, 1), NONE);
        check.due("b does not exist", x.sporadic(0, 4, 1), NONE);
        check.due("c does not exist", x.sporadic(0, 1, 4), NONE);
        check.due("c is -2", x.sporadic(0, 1, -2), NONE);
        check.due("a is NONE", x.sporadic(NONE, 0, 1), NONE);
        check.due("b is NONE", x.sporadic(0, NONE, 1), NONE);
        check.due("b and c are NONE", x.sporadic(0, NONE, NONE), NONE);
        check.due("a and b the same", x.sporadic(1, 1, NONE), NONE);
        check.due("a and c the same", x.sporadic(1, 0, 1), NONE);
        check.due("b and c the same", x.sporadic(0, 1, 1), NONE);
        check.no("no group yet", x.entry(0, 1, 0, 1));
        check.due("three", x.sporadic(2, 1, 0), 0);
        check.due("the same once more", x.sporadic(0, 1, NONE), 1);
        check.due("a third group", x.sporadic(0, 2, NONE), NONE);
    }

    private static HeaderSchedule sixSlaveFrames() {
        HeaderSchedule x = new HeaderSchedule();
        x.frame(10, 1, 3, false);
        x.frame(11, 2, 3, false);
        x.frame(12, 3, 3, false);
        x.frame(13, 3, 4, false);
        x.frame(14, 3, 3, true);
        x.frame(15, 0, 3, false);
        x.frame(16, 3, 3, false);
        x.frame(17, 1, 3, false);
        return x;
    }

    private void eventArguments() {
        HeaderSchedule x = sixSlaveFrames();
        check.due("identifier -1", x.event(-1, 0, 1, 2, 0), NONE);
        check.due("identifier 60", x.event(60, 0, 1, 2, 0), NONE);
        check.due("borne by a frame", x.event(17, 0, 1, 2, 0), NONE);
        check.due("table -1", x.event(20, 0, 1, 2, -1), NONE);
        check.due("table 3", x.event(20, 0, 1, 2, 3), NONE);
        check.due("a does not exist", x.event(20, 8, 1, 2, 0), NONE);
        check.due("b does not exist", x.event(20, 0, 8, 2, 0), NONE);
        check.due("c does not exist", x.event(20, 0, 1, 8, 0), NONE);
        check.due("c is -2", x.event(20, 0, 1, -2, 0), NONE);
        check.due("a is NONE", x.event(20, NONE, 1, 2, 0), NONE);
        check.due("b is NONE", x.event(20, 0, NONE, 2, 0), NONE);
        check.due("the master's", x.event(20, 0, 1, 5, 0), NONE);
        check.due("the master's first", x.event(20, 5, 1, NONE, 0), NONE);
        check.due("twice the same", x.event(20, 0, 0, NONE, 0), NONE);
        check.due("publisher of a and b", x.event(20, 0, 7, 2, 0), NONE);
        check.due("publisher of a and c", x.event(20, 0, 1, 7, 0), NONE);
        check.due("publisher of b and c", x.event(20, 0, 2, 6, 0), NONE);
        check.due("another length", x.event(20, 0, 1, 3, 0), NONE);
        check.due("another length of a", x.event(20, 3, 1, NONE, 0), NONE);
        check.due("the other checksum", x.event(20, 0, 1, 4, 0), NONE);
        check.due("signal with bit 7", x.signal(2, 7, 2, 0), 0);
        check.due("in byte 0 a signal", x.event(20, 0, 1, 2, 0), NONE);
        check.due("signal from bit 8", x.signal(6, 8, 2, 0), 1);
        check.no("no event yet", x.entry(0, 2, 0, 1));
        check.due("three", x.event(20, 0, 1, 6, 0), 0);
    }

    private void moreEvents() {
        HeaderSchedule x = sixSlaveFrames();
        check.due("two", x.event(59, 0, 1, NONE, 2), 0);
        check.due("borne by an event frame", x.event(59, 7, 2, NONE, 2), NONE);
        check.due("associated already", x.event(21, 7, 1, NONE, 2), NONE);
        check.due("associated already, as c", x.event(21, 2, 7, 1, 2), NONE);
        check.due("the second", x.event(0, 7, 2, NONE, 2), 1);

        HeaderSchedule y = new HeaderSchedule();
        for (int i = 0; i < 6; i++) {
            y.frame(i, 1 + i % 2, 2, false);
        }
        check.due("first of three", y.event(10, 0, 1, NONE, 0), 0);
        check.due("second of three", y.event(11, 2, 3, NONE, 0), 1);
        check.due("third of three", y.event(12, 4, 5, NONE, 0), NONE);
        check.due("its identifier is free", y.frame(12, 0, 1, false), 6);
    }

    private void entryArguments() {
        HeaderSchedule x = sixSlaveFrames();
        x.frame(1, 0, 1, false);
        check.no("table -1", x.entry(-1, 0, 0, 1));
        check.no("table 3", x.entry(3, 0, 0, 1));
        check.no("kind -1", x.entry(0, -1, 0, 1));
        check.no("kind 3", x.entry(0, 3, 0, 1));
        check.no("number -1", x.entry(0, 0, -1, 1));
        check.no("number 8", x.entry(0, 0, 8, 1));
        check.no("no group", x.entry(0, 1, 0, 1));
        check.no("no event", x.entry(0, 2, 0, 1));
        check.no("delay 0", x.entry(0, 0, 0, 0));
        check.no("delay 21", x.entry(0, 0, 0, 21));
        check.no("still empty", x.start(0));
        for (int i = 0; i < 8; i++) {
            check.yes("entry " + i, x.entry(2, 0, i, i == 0 ? 20 : 1));
        }
        check.no("the ninth entry", x.entry(2, 0, 0, 1));
        check.yes("another table", x.entry(1, 0, 0, 1));
        check.no("table 0 is still empty", x.start(0));
        check.yes("table 2", x.start(2));
        check.due("table 2, entry 0", x.position(), 32);
    }

    private void entryNumbers() {
        HeaderSchedule x = new HeaderSchedule();
        x.frame(1, 0, 2, false);
        x.frame(2, 0, 2, false);
        x.frame(3, 1, 2, false);
        x.frame(4, 2, 2, false);
        x.sporadic(0, 1, NONE);
        x.event(5, 2, 3, NONE, 1);
        check.yes("group 0", x.entry(0, 1, 0, 1));
        check.no("group 1", x.entry(0, 1, 1, 1));
        check.no("group -1", x.entry(0, 1, -1, 1));
        check.yes("event 0", x.entry(0, 2, 0, 1));
        check.no("event 1", x.entry(0, 2, 1, 1));
        check.no("event -1", x.entry(0, 2, -1, 1));
    }

    private void startArguments() {
        HeaderSchedule x = new HeaderSchedule();
        x.frame(1, 0, 1, false);
        x.entry(1, 0, 0, 1);
        check.no("table -1", x.start(-1));
        check.no("table 3", x.start(3));
        check.no("an empty table", x.start(0));
        check.due("not started yet", x.tick(), NONE);
        check.yes("start(1)", x.start(1));
        check.due("present", x.position(), 16);
        check.no("started already", x.start(1));
    }

    private static HeaderSchedule twoEvents() {
        HeaderSchedule x = new HeaderSchedule();
        for (int i = 0; i < 4; i++) {
            x.frame(i, 1 + i % 2, 2, false);
        }
        x.frame(20, 0, 2, false);
        x.frame(21, 0, 2, false);
        x.sporadic(4, 5, NONE);
        x.event(30, 0, 1, NONE, 1);
        x.event(31, 3, 2, NONE, 2);
        x.entry(0, 0, 4, 1);
        return x;
    }

    private void startLooksAtResolvingTables() {
        HeaderSchedule x = twoEvents();
        check.no("both are empty", x.start(0));
        x.entry(1, 0, 1, 1);
        x.entry(1, 0, 4, 1);
        x.entry(2, 0, 2, 1);
        x.entry(2, 0, 3, 1);
        check.no("frame 0 is missing", x.start(0));
        x.entry(1, 0, 0, 1);
        check.yes("all are there, and others too", x.start(0));

        HeaderSchedule y = twoEvents();
        y.entry(1, 0, 0, 1);
        y.entry(1, 0, 1, 1);
        y.entry(2, 0, 2, 1);
        check.no("frame 3 of the second is missing", y.start(0));
        y.entry(2, 0, 3, 1);
        y.entry(2, 1, 0, 1);
        check.no("a group is in it", y.start(0));

        HeaderSchedule z = twoEvents();
        z.entry(2, 0, 2, 1);
        z.entry(2, 0, 3, 1);
        z.entry(1, 2, 0, 1);
        z.entry(1, 0, 0, 1);
        z.entry(1, 0, 1, 1);
        check.no("an event frame is in it", z.start(0));
        check.no("with that table too", z.start(1));
        check.due("not started", z.position(), NONE);
    }

    private void startWithResolvingTable() {
        HeaderSchedule x = twoEvents();
        x.entry(1, 0, 0, 1);
        x.entry(1, 0, 1, 1);
        x.entry(2, 0, 2, 1);
        x.entry(2, 0, 3, 1);
        check.yes("as an ordinary table", x.start(2));
        check.due("no resolving run", x.position(), 32);
    }

    public static void main(String[] args) {
        MakingTest test = new MakingTest();
        test.newObject();
        test.frameArguments();
        test.eightFrames();
        test.nothingIsMadeAfterStart();
        test.signalBits();
        test.sixteenSignals();
        test.signalOfAssociatedFrame();
        test.sporadicArguments();
        test.eventArguments();
        test.moreEvents();
        test.entryArguments();
        test.entryNumbers();
        test.startArguments();
        test.startLooksAtResolvingTables();
        test.startWithResolvingTable();
        test.check.end();
    }
}
