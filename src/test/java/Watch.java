/** For the tests: a test that comes to no end fails. */
final class Watch {
    private static final int SECONDS = 240;

    static void start(String test) {
        Thread thread = new Thread(() -> wait(test));
        thread.setDaemon(true);
        thread.start();
    }

    private static void wait(String test) {
        try {
            Thread.sleep(SECONDS * 1000L);
        } catch (InterruptedException none) {
            return;
        }
        System.out.println(test + ": comes to no end");
        Runtime.getRuntime().halt(1);
    }
}
