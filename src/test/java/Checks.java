import java.util.NoSuchElementException;
import java.util.function.IntSupplier;

/** What the tests share: they count the answers that are not as due, and say each. */
final class Checks {
    private int asked = 0;
    private int wrong = 0;
    private String about = "";

    /** What the checks from here on are about is said ahead of each that fails. */
    void about(String subject) {
        about = subject + " | ";
    }

    void same(String what, long got, long want) {
        asked++;
        if (got != want) {
            fail(what, "answered " + got + ", due is " + want);
        }
    }

    void sameText(String what, String got, String want) {
        asked++;
        if (!got.equals(want)) {
            fail(what, "is " + got + ", due is " + want);
        }
    }

    void noElement(String what, IntSupplier call) {
        thrown(what, call, NoSuchElementException.class);
    }

    void badArgument(String what, IntSupplier call) {
        thrown(what, call, IllegalArgumentException.class);
    }

    private void thrown(String what, IntSupplier call, Class<?> due) {
        asked++;
        String came;
        try {
            came = "answered " + call.getAsInt();
        } catch (RuntimeException e) {
            if (e.getClass() == due) {
                return;
            }
            came = "threw " + e;
        }
        fail(what, came + ", due is a throw of " + due.getSimpleName());
    }

    /** Runs a test; if something is thrown out of it, that is one wrong answer, and not the end of all tests. */
    void alone(Runnable test) {
        try {
            test.run();
        } catch (RuntimeException e) {
            asked++;
            fail("a call", "threw " + e);
        }
    }

    private void fail(String what, String came) {
        wrong++;
        System.out.println(about + what + ": " + came);
    }

    /** Ends the test: exit code 1 if an answer was wrong. */
    void end(String name) {
        System.out.println(name + ": " + asked + " answers asked, " + wrong + " not as due");
        if (wrong != 0 || asked == 0) {
            System.exit(1);
        }
    }
}
