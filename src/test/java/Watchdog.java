/** Ends a test that does not end by itself, as a call that it makes may fail to. */
final class Watchdog extends Thread {
    private static final long MOST_MILLISECONDS = 240_000;

    private Watchdog() {
        setDaemon(true);
    }

    static void watch() {
        new Watchdog().start();
    }

    @Override
    public void run() {
        try {
            Thread.sleep(MOST_MILLISECONDS);
        } catch (InterruptedException e) {
            return;
        }
        System.out.println("a call does not end, or all of them take too long");
        Runtime.getRuntime().halt(1);
    }
}
