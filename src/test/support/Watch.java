/** A call that does not end is a failure, too. */
final class Watch {
    private static final long MOST_SECONDS = 120;

    private Watch() {
    }

    static void start() {
        Thread watch = new Thread(() -> {
            try {
                Thread.sleep(MOST_SECONDS * 1000);
            } catch (InterruptedException e) {
                return;
            }
            System.out.println("wrong: no end after " + MOST_SECONDS + " seconds");
            Runtime.getRuntime().halt(1);
        });
        watch.setDaemon(true);
        watch.start();
    }
}
