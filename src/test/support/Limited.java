import java.lang.reflect.Method;

/** Runs a test's main method, and ends it with exit code 1 if it goes on for too long: a call must end, too. */
public final class Limited {
    private static final long SECOND = 1000;

    /** The seconds, and the name of the test. */
    public static void main(String[] args) throws ReflectiveOperationException {
        Thread guard = new Thread(() -> endAfter(Long.parseLong(args[0])));
        guard.setDaemon(true);
        guard.start();
        Method main = Class.forName(args[1]).getMethod("main", String[].class);
        main.invoke(null, (Object) new String[0]);
    }

    private static void endAfter(long seconds) {
        try {
            Thread.sleep(seconds * SECOND);
        } catch (InterruptedException e) {
            return;
        }
        System.out.println("not ended after " + seconds + " seconds");
        System.out.flush();
        Runtime.getRuntime().halt(1);
    }
}
