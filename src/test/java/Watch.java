/** Ends a test that does not end by itself: no call may fail to end, and the tests are to tell so. */
final class Watch {
    private static final long MOST_MILLISECONDS = 120_000;
    private static boolean begun = false;

    private Watch() {
    }

    static synchronized void begin() {
        if (begun) {
            return;
        }
        begun = true;
        Thread thread = new Thread(Watch::waitAndEnd);
        thread.setDaemon(true);
        thread.start();
    }

    private static void waitAndEnd() {
        try {
            Thread.sleep(MOST_MILLISECONDS);
        } catch (InterruptedException e) {
            return;
        }
        System.out.println("the test does not end");
        Runtime.getRuntime().halt(1);
    }
}
