/** Promise 10, sentence by sentence. */
public final class Promise10FreshTest {
    private static void whether(Check check) {
        HeaderSchedule x = Scenes.started();
        x.write(0, 10);
        check.no("written is not fresh", x.fresh(0));
        check.ticks(x, 1);
        check.no("another frame's", x.fresh(1) || x.fresh(2) || x.fresh(3));
        check.ticks(x, 0, 2);
        check.yes("received two slots ago", x.fresh(0));
    }

    private static void notAnyMore(Check check) {
        HeaderSchedule x = Scenes.oneFrame(false, 1, 2);
        check.no("made", x.fresh(0));
        check.ticks(x, 1);
        check.yes("received, though never written", x.fresh(0));
        check.no("not any more", x.fresh(0));
        check.yes("its neighbour is still", x.fresh(1));
        check.ticks(x, 1);
        check.yes("received again, with the same value", x.fresh(0));
        check.ticks(x, 1, 1);
        check.yes("received twice", x.fresh(0));
        check.no("but it is told once", x.fresh(0));
        check.due("the value stays", x.read(0), 1);
        x.noise(0, 1);
        check.ticks(x, 3);
        check.no("what was not valid does not make it fresh", x.fresh(0));
        check.yes("nor ends it", x.fresh(1));
    }

    private static void noSuchSignal(Check check) {
        Twins twins = new Twins(check, Scenes::laden, Scenes::running, Scenes::resolving, Scenes::asleep);
        for (int signal : new int[] {-1, 4, 5, 16, Integer.MIN_VALUE, Integer.MAX_VALUE}) {
            twins.no("fresh(" + signal + ")", x -> x.fresh(signal));
        }
        HeaderSchedule x = Scenes.oneFrame(false, 1, 2);
        check.ticks(x, 1);
        check.no("behind the last", x.fresh(2));
        check.no("before the first", x.fresh(-1));
        check.yes("the last", x.fresh(1));
        check.yes("the first", x.fresh(0));
        check.no("in a new object", new HeaderSchedule().fresh(0));
    }

    public static void main(String[] args) {
        Section section = new Section("Promise 10: fresh");
        section.sentence("Whether a signal is fresh", Promise10FreshTest::whether);
        section.sentence("it is not fresh any more then.", Promise10FreshTest::notAnyMore);
        section.sentence("False when there is no such signal.", Promise10FreshTest::noSuchSignal);
        section.end();
    }
}
