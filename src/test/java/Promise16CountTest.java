/** Promise 16, sentence by sentence. */
public final class Promise16CountTest {
    private static void counts(Check check, HeaderSchedule x, int received, int silent, int notValid, int events) {
        check.due("count(1)", x.count(1), received);
        check.due("count(2)", x.count(2), silent);
        check.due("count(3)", x.count(3), notValid);
        check.due("count(4)", x.count(4), events);
    }

    private static void howMany(Check check) {
        HeaderSchedule x = Scenes.made();
        counts(check, x, 0, 0, 0, 0);
        check.ticks(x, HeaderSchedule.NONE);
        counts(check, x, 0, 0, 0, 0);
        x.start(0);
        counts(check, x, 0, 0, 0, 0);
        check.ticks(x, 1);
        counts(check, x, 1, 0, 0, 0);
        check.ticks(x, 0);
        counts(check, x, 1, 0, 0, 0);
        check.ticks(x, 2);
        counts(check, x, 1, 1, 0, 0);
        x.write(2, 1);
        x.write(3, 1);
        check.ticks(x, 4, 0);
        counts(check, x, 1, 1, 0, 1);
        x.noise(0, 1);
        check.ticks(x, 3);
        counts(check, x, 1, 1, 1, 1);
        check.ticks(x, 1);
        counts(check, x, 2, 1, 1, 1);
        x.sleep();
        check.ticks(x, HeaderSchedule.NONE);
        counts(check, x, 2, 1, 1, 1);
        x.wake();
        counts(check, x, 2, 1, 1, 1);
    }

    private static void cutOff(Check check) {
        HeaderSchedule x = Scenes.started();
        check.ticks(x, 1);
        x.sleep();
        x.wake();
        counts(check, x, 1, 0, 0, 0);
        check.ticks(x, 2);
        counts(check, x, 1, 1, 0, 0);
    }

    private static void noSuchAnswer(Check check) {
        Twins twins = new Twins(check, Scenes::fresh, Scenes::laden, Scenes::running, Scenes::asleep);
        for (int answer : new int[] {0, 5, -1, 6, Integer.MIN_VALUE, Integer.MAX_VALUE}) {
            twins.none("count(" + answer + ")", x -> x.count(answer));
        }
        HeaderSchedule x = Scenes.started();
        check.ticks(x, 1, 0);
        check.none("0 is no answer of a slot", x.count(0));
        check.none("nor is 5", x.count(5));
        check.due("the least", x.count(1), 1);
        check.due("the greatest", x.count(4), 0);
    }

    public static void main(String[] args) {
        Section section = new Section("Promise 16: count");
        section.sentence("How many slots ended up with that answer of tick().", Promise16CountTest::howMany);
        section.sentence("How many slots", Promise16CountTest::cutOff);
        section.sentence("NONE when the answer is not 1 .. 4.", Promise16CountTest::noSuchAnswer);
        section.end();
    }
}
