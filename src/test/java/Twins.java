import java.util.ArrayList;
import java.util.List;
import java.util.function.Predicate;
import java.util.function.ToIntFunction;

/**
 * Makes two objects by the same calls and lets one of them refuse a call: whatever is asked of the two and done with
 * them afterwards, they have to answer the same.
 */
final class Twins {
    /** Makes an object anew, by the same calls each time. */
    interface Scene {
        HeaderSchedule get();
    }

    private record Step(String call, ToIntFunction<HeaderSchedule> on) {
    }

    private static final List<Step> AFTERWARDS = afterwards();
    private final Check check;
    private final List<Scene> scenes;

    Twins(Check check, Scene... scenes) {
        this.check = check;
        this.scenes = List.of(scenes);
    }

    /** A call that is due to answer NONE, in each of the scenes. */
    void none(String call, ToIntFunction<HeaderSchedule> refused) {
        for (Scene scene : scenes) {
            HeaderSchedule x = scene.get();
            check.none(call, refused.applyAsInt(x));
            sameAfterwards(call, x, scene.get());
        }
    }

    /** A call that is due to answer false, in each of the scenes. */
    void no(String call, Predicate<HeaderSchedule> refused) {
        for (Scene scene : scenes) {
            HeaderSchedule x = scene.get();
            check.no(call, refused.test(x));
            sameAfterwards(call, x, scene.get());
        }
    }

    private void sameAfterwards(String refused, HeaderSchedule x, HeaderSchedule untouched) {
        for (Step step : AFTERWARDS) {
            int want = step.on.applyAsInt(untouched);
            check.due(step.call + " after the refused " + refused, step.on.applyAsInt(x), want);
        }
    }

    private static int number(boolean answer) {
        return answer ? 1 : 0;
    }

    /** Some 300 calls, so that an object of at most 200 calls stays within its 512. */
    private static List<Step> afterwards() {
        List<Step> steps = new ArrayList<>();
        look(steps);
        for (int i = 0; i < 16; i++) {
            int signal = i;
            steps.add(new Step("fresh(" + i + ")", x -> number(x.fresh(signal))));
        }
        makeMore(steps);
        tick(steps, 12);
        for (int i = 0; i < 16; i++) {
            int signal = i;
            steps.add(new Step("write(" + i + ", 1)", x -> number(x.write(signal, 1))));
        }
        tick(steps, 12);
        steps.add(new Step("wake()", x -> number(x.wake())));
        tick(steps, 8);
        look(steps);
        return steps;
    }

    private static void look(List<Step> steps) {
        steps.add(new Step("position()", x -> x.position()));
        for (int i = 0; i < 16; i++) {
            int n = i;
            steps.add(new Step("read(" + i + ")", x -> x.read(n)));
            if (i < 8) {
                steps.add(new Step("pending(" + i + ")", x -> number(x.pending(n))));
            }
            if (i < 10) {
                steps.add(new Step("bus(" + i + ")", x -> x.bus(n)));
            }
            if (i < 5) {
                steps.add(new Step("count(" + i + ")", x -> x.count(n)));
            }
        }
    }

    /** What is left to be made tells what was there already. */
    private static void makeMore(List<Step> steps) {
        for (int i = 0; i < 9; i++) {
            int n = i;
            steps.add(new Step("frame(" + (40 + i) + ", ..)", x -> x.frame(40 + n, n % 4, 2, false)));
        }
        for (int i = 0; i < 17; i++) {
            int n = i;
            int frame = i < 8 ? i : (i - 8) % 5;
            steps.add(new Step("signal(" + frame + ", ..)", x -> x.signal(frame, n < 8 ? 10 : 3, 2, n % 4)));
        }
        for (int i = 0; i < 3; i++) {
            int n = i;
            steps.add(new Step("sporadic(..)", x -> x.sporadic(0, 4 - n % 2 * 3, HeaderSchedule.NONE)));
            steps.add(new Step("event(" + (50 + i) + ", ..)", x -> x.event(50 + n, 5, 6, n == 0 ? 7 : -1, 2)));
        }
        for (int i = 0; i < 27; i++) {
            int n = i;
            steps.add(new Step("entry(" + i / 9 + ", ..)", x -> number(x.entry(n / 9, 0, (n + n / 9) % 8, 1 + n % 2))));
        }
        for (int i = 0; i < 3; i++) {
            int n = i;
            steps.add(new Step("start(" + i + ")", x -> number(x.start(n))));
        }
    }

    private static void tick(List<Step> steps, int many) {
        for (int i = 0; i < many; i++) {
            steps.add(new Step("tick()", x -> x.tick()));
            steps.add(new Step("position()", x -> x.position()));
            steps.add(new Step("bus(0)", x -> x.bus(0)));
            steps.add(new Step("bus(2)", x -> x.bus(2)));
        }
    }
}
