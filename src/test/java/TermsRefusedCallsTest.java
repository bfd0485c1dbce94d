/** The last paragraph of the section Terms: refused calls, and what cannot be done before and after start(). */
public final class TermsRefusedCallsTest {
    private static final int NONE = HeaderSchedule.NONE;

    private static boolean allRefusedToMake(HeaderSchedule x) {
        return x.frame(-1, 0, 1, true) == NONE && x.frame(50, 0, 9, true) == NONE && x.signal(-1, 0, 1, 0) == NONE
            && x.signal(0, 0, 17, 0) == NONE && x.sporadic(0, 0, NONE) == NONE && x.event(60, 2, 3, NONE, 0) == NONE
            && x.event(50, 2, 3, NONE, 3) == NONE && !x.entry(0, 3, 0, 1) && !x.entry(2, 0, 0, 21) && !x.start(3);
    }

    private static boolean allRefusedToRun(HeaderSchedule x) {
        return !x.write(-1, 0) && !x.write(0, -1) && !x.write(16, 0) && x.read(-1) == NONE && !x.fresh(16)
            && !x.pending(8) && !x.request(3) && !x.request(-1) && !x.noise(9, 1) && !x.noise(0, 256)
            && x.bus(-1) == NONE && x.bus(10) == NONE && x.count(0) == NONE && x.count(5) == NONE;
    }

    /** Calls with wrong arguments are refused in any state, and leave it as it is. */
    private static void changeNothing(Check check) {
        Twins twins = new Twins(check, Scenes::fresh, Scenes::made, Scenes::laden, Scenes::started, Scenes::running,
            Scenes::collided, Scenes::resolving, Scenes::asleep);
        twins.no("each of them", x -> !(allRefusedToMake(x) && allRefusedToRun(x)));
    }

    private static void beforeStartNothingRuns(Check check) {
        HeaderSchedule x = Scenes.laden();
        check.ticks(x, NONE, NONE);
        check.no("request(0)", x.request(0));
        check.no("sleep()", x.sleep());
        check.no("wake()", x.wake());
        check.none("position()", x.position());
        check.none("bus(0)", x.bus(0));
        for (int answer = 1; answer <= 4; answer++) {
            check.due("count(" + answer + ")", x.count(answer), 0);
        }
        check.yes("pending all the same", x.pending(3));
    }

    private static void makeNothing(Check check, HeaderSchedule x) {
        check.none("frame", x.frame(50, 0, 1, true));
        check.none("signal", x.signal(0, 0, 1, 0));
        check.none("sporadic", x.sporadic(1, 0, NONE));
        check.none("event", x.event(51, 4, 5, NONE, 0));
        check.no("entry", x.entry(2, 0, 0, 1));
        check.no("start", x.start(2));
    }

    private static HeaderSchedule withTwoMore() {
        HeaderSchedule x = Scenes.made();
        x.frame(40, 1, 1, false);
        x.frame(41, 2, 1, false);
        return x;
    }

    private static void afterwardsNothingIsMade(Check check) {
        HeaderSchedule x = withTwoMore();
        x.start(0);
        makeNothing(check, x);
        check.ticks(x, 1);
        makeNothing(check, x);
        x.sleep();
        makeNothing(check, x);
        x.wake();
        makeNothing(check, x);
        HeaderSchedule before = withTwoMore();
        check.due("frame before", before.frame(50, 0, 1, true), 6);
        check.due("signal before", before.signal(0, 0, 1, 0), 4);
        check.due("sporadic before", before.sporadic(1, 0, NONE), 1);
        check.due("event before", before.event(51, 4, 5, NONE, 1), 1);
        check.yes("entry before", before.entry(2, 0, 0, 1));
    }

    public static void main(String[] args) {
        Section section = new Section("Terms");
        section.sentence("Calls that are refused (they answer NONE or false) change nothing.",
            TermsRefusedCallsTest::changeNothing);
        section.sentence("Before start() nothing runs", TermsRefusedCallsTest::beforeStartNothingRuns);
        section.sentence("afterwards nothing can be made any more.", TermsRefusedCallsTest::afterwardsNothingIsMade);
        section.end();
    }
}
