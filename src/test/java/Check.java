import java.util.Objects;

/** What the tests share: named tests, comparisons, and exceptions that are due. */
final class Check {
    interface Body {
        void run();
    }

    private static int wrong = 0;
    private static int failedTests = 0;

    private Check() {
    }

    static void test(String name, Body body) {
        int before = wrong;
        try {
            body.run();
        } catch (RuntimeException | Error e) {
            wrong++;
            System.out.println("  " + name + ": " + e + " at " + e.getStackTrace()[0]);
        }
        if (wrong > before) {
            failedTests++;
        }
        System.out.println((wrong == before ? "ok " : "FAILED ") + name);
    }

    static void same(Object want, Object got) {
        same("answer", want, got);
    }

    static void same(String what, Object want, Object got) {
        if (!Objects.equals(want, got)) {
            wrong++;
            System.out.println("  " + what + " is " + got + ", due is " + want + ", at " + caller());
        }
    }

    /** The very exception is due, not one of a class below it. */
    static void fails(Class<? extends RuntimeException> kind, Body body) {
        RuntimeException thrown = null;
        try {
            body.run();
        } catch (RuntimeException e) {
            thrown = e;
        }
        same("exception", kind, thrown == null ? null : thrown.getClass());
    }

    static void finish() {
        System.exit(failedTests == 0 ? 0 : 1);
    }

    private static String caller() {
        for (StackTraceElement element : new Throwable().getStackTrace()) {
            if (!element.getClassName().equals("Check")) {
                return element.toString();
            }
        }
        return "?";
    }
}
