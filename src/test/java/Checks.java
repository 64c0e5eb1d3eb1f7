import java.util.Objects;

/** Counts what is not as due, and ends a test with the exit code that tells it. */
final class Checks {
    private final String title;
    private int made;
    private int wrong;

    Checks(String title) {
        this.title = title;
    }

    void same(String what, Object got, Object due) {
        made++;
        if (!Objects.equals(got, due)) {
            report(what + " answered " + got + ", due is " + due);
        }
    }

    void same(String what, long got, long due) {
        same(what, (Object) got, (Object) due);
    }

    /** The call throws exactly this exception, and changes nothing. */
    void refused(String what, ToneLoader loader, Class<?> due, Runnable call) {
        long before = loader.digest();
        Class<?> got = null;
        try {
            call.run();
        } catch (RuntimeException thrown) {
            got = thrown.getClass();
        }
        same(what + " throws", got, due);
        same("the digest after " + what, loader.digest(), before);
    }

    void report(String text) {
        wrong++;
        if (wrong <= 20) {
            System.out.println(title + ": " + text);
        }
    }

    boolean allDue() {
        return wrong == 0;
    }

    void end() {
        System.out.println(title + ": " + made + " checks, " + wrong + " not as due");
        if (wrong != 0 || made == 0) {
            System.exit(1);
        }
    }
}
