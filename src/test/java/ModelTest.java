/** Many runs of calls, the same in every session, whose answers are held against those of the model. */
public final class ModelTest {
    private static final int NONE = HeaderSchedule.NONE;
    private static final int RUNS = 6000;
    private static final int CALLS = 512;
    private final Check check = new Check();
    private final int[] seen = new int[5];
    private int resolvingSeen = 0;
    private long state;
    private HeaderSchedule x;
    private Model y;
    private int calls;
    private int run;

    /** A number 0 .. bound - 1, the same ones in each session. */
    private int some(int bound) {
        state = state * 6364136223846793005L + 1442695040888963407L;
        return (int) ((state >>> 33) % bound);
    }

    private boolean rarely() {
        return some(20) == 0;
    }

    /** A number least .. most, and rarely one beside it. */
    private int near(int least, int most) {
        return rarely() ? (some(2) == 0 ? least - 1 : most + 1) : least + some(most - least + 1);
    }

    private void same(String call, int got, int want) {
        calls++;
        check.due("run " + run + ", call " + calls + ": " + call, got, want);
    }

    private void same(String call, boolean got, boolean want) {
        same(call, got ? 1 : 0, want ? 1 : 0);
    }

    private void frame(int publisher, int length, boolean enhanced) {
        int identifier = near(0, 59);
        same("frame", x.frame(identifier, publisher, length, enhanced), y.frame(identifier, publisher, length, enhanced));
    }

    private void signal(int frame, int offset, int width) {
        int value = rarely() ? near(0, 65535) : some(Math.max(1, 1 << Math.max(0, Math.min(16, width))));
        same("signal", x.signal(frame, offset, width, value), y.signal(frame, offset, width, value));
    }

    private void group(int a, int b, int c) {
        same("sporadic", x.sporadic(a, b, c), y.sporadic(a, b, c));
    }

    private void event(int a, int b, int c, int table) {
        int identifier = near(0, 59);
        same("event", x.event(identifier, a, b, c, table), y.event(identifier, a, b, c, table));
    }

    private void entry(int table, int kind, int number) {
        int delay = rarely() ? near(1, 20) : 1 + some(2);
        same("entry", x.entry(table, kind, number, delay), y.entry(table, kind, number, delay));
    }

    private void start(int table) {
        same("start", x.start(table), y.start(table));
    }

    /** Three slaves' frames that may be associated, two of the master, and tables that can be started. */
    private void makeWell() {
        int length = 2 + some(7);
        boolean enhanced = some(2) == 0;
        for (int publisher = 1; publisher <= 3; publisher++) {
            frame(publisher, length, enhanced);
        }
        frame(0, 1 + some(8), some(2) == 0);
        frame(0, 1 + some(8), some(2) == 0);
        for (int i = 0; i < 10; i++) {
            signal(some(5), rarely() ? some(8) : 8 + some(8), 1 + some(8));
        }
        signal(3, 0, 1 + some(8));
        signal(4, 0, 1 + some(8));
        group(3, 4, NONE);
        event(0, 1, some(2) == 0 ? 2 : NONE, 1);
        for (int i = 0; i < 4; i++) {
            entry(1, 0, i % 3);
            int kind = some(3);
            entry(0, kind, kind == 0 ? some(5) : 0);
            kind = some(3);
            entry(2, kind, kind == 0 ? some(5) : 0);
        }
    }

    private void makeAnything() {
        for (int i = 0; i < 80; i++) {
            switch (some(5)) {
                case 0 -> frame(near(0, 3), 2 + near(0, 2), rarely());
                case 1 -> signal(near(0, 7), near(0, 23), near(1, 16));
                case 2 -> group(near(0, 7), near(0, 7), near(-1, 7));
                case 3 -> event(near(0, 7), near(0, 7), near(-1, 7), near(0, 2));
                default -> entry(near(0, 2), near(0, 2), near(0, 7));
            }
        }
    }

    private void use() {
        int a = near(0, 15);
        switch (some(16)) {
            case 0, 1, 2 -> {
                int value = rarely() ? near(0, 65535) : some(8);
                same("write", x.write(a, value), y.write(a, value));
            }
            case 3 -> {
                int k = rarely() ? near(0, 8) : some(4);
                int mask = some(4) == 0 ? 255 : near(1, 255);
                same("noise", x.noise(k, mask), y.noise(k, mask));
            }
            case 4 -> {
                int table = near(0, 2);
                if (some(3) == 0) {
                    same("request", x.request(table), y.request(table));
                } else {
                    same("pending", x.pending(a % 9), y.pending(a % 9));
                }
            }
            case 5 -> same("read", x.read(a), y.read(a));
            case 6 -> same("fresh", x.fresh(a), y.fresh(a));
            case 7 -> same("bus", x.bus(a % 11), y.bus(a % 11));
            case 8 -> same("position", x.position(), y.position());
            case 9 -> {
                if (rarely()) {
                    same("sleep", x.sleep(), y.sleep());
                } else {
                    same("wake", x.wake(), y.wake());
                }
            }
            case 10 -> {
                if (rarely()) {
                    same("start again", x.start(a % 4), y.start(a % 4));
                    same("frame", x.frame(a, 0, 1, true), y.frame(a, 0, 1, true));
                }
            }
            default -> {
                int want = y.tick();
                same("tick", x.tick(), want);
                seen[Math.max(0, want)]++;
                resolvingSeen += y.position() >= 64 ? 1 : 0;
            }
        }
    }

    private void look() {
        same("position", x.position(), y.position());
        for (int i = -1; i <= 16; i++) {
            same("bus", x.bus(i), y.bus(i));
            same("read", x.read(i), y.read(i));
        }
        for (int i = -1; i <= 5; i++) {
            same("count", x.count(i), y.count(i));
        }
        for (int i = -1; i <= 8; i++) {
            same("pending", x.pending(i), y.pending(i));
        }
    }

    private void oneRun() {
        state = 7919L * run + 1;
        x = new HeaderSchedule();
        y = new Model();
        calls = 0;
        if (run % 3 == 0) {
            makeAnything();
        } else {
            makeWell();
        }
        for (int table = 0; table < 3; table++) {
            start(table);
        }
        // Sixty calls are left for the last look.
        while (calls < CALLS - 60) {
            use();
        }
        look();
    }

    public static void main(String[] args) {
        ModelTest test = new ModelTest();
        for (test.run = 0; test.run < RUNS; test.run++) {
            test.oneRun();
        }
        for (int answer = 1; answer <= 4; answer++) {
            test.check.yes("often enough answered " + answer, test.seen[answer] > 1000);
        }
        test.check.yes("often enough in a resolving run", test.resolvingSeen > 1000);
        test.check.end();
    }
}
