/** Counts the answers that are not as due, and ends a test with exit code 1 if there was one. */
final class Check {
    private final String where;
    private int calls = 0;
    private int wrong = 0;

    Check() {
        this("");
    }

    /** Every line that is printed begins with where. */
    Check(String where) {
        Watch.begin();
        this.where = where;
    }

    int calls() {
        return calls;
    }

    int wrong() {
        return wrong;
    }

    void due(String call, int got, int want) {
        calls++;
        if (got != want) {
            wrong++;
            System.out.println(where + call + " answered " + got + ", due is " + want);
        }
    }

    void due(String call, boolean got, boolean want) {
        due(call, got ? 1 : 0, want ? 1 : 0);
    }

    void none(String call, int got) {
        due(call, got, HeaderSchedule.NONE);
    }

    void yes(String call, boolean got) {
        due(call, got, true);
    }

    void no(String call, boolean got) {
        due(call, got, false);
    }

    /** The answers of as many ticks as there are answers due. */
    void ticks(HeaderSchedule x, int... want) {
        for (int i = 0; i < want.length; i++) {
            due("tick " + i + " of " + want.length, x.tick(), want[i]);
        }
    }

    /** All bytes of the latest slot, the header first, and none behind them. */
    void bytes(HeaderSchedule x, int... want) {
        for (int k = 0; k < want.length; k++) {
            due("bus(" + k + ")", x.bus(k), want[k]);
        }
        due("bus(" + want.length + ")", x.bus(want.length), HeaderSchedule.NONE);
    }

    void end() {
        System.out.println(wrong == 0
            ? calls + " answers are as due" : wrong + " of " + calls + " answers are not as due");
        if (wrong != 0 || calls == 0) {
            System.exit(1);
        }
    }
}
