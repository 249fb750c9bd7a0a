import java.util.NoSuchElementException;
import java.util.function.IntSupplier;

/** What the tests share: they count the answers that are not as due, and say each. */
final class Checks {
    private int asked = 0;
    private int wrong = 0;

    void same(String what, long got, long want) {
        asked++;
        if (got != want) {
            wrong++;
            System.out.println(what + ": answered " + got + ", due is " + want);
        }
    }

    void noElement(String what, IntSupplier call) {
        thrown(what, call, NoSuchElementException.class);
    }

    void badArgument(String what, IntSupplier call) {
        thrown(what, call, IllegalArgumentException.class);
    }

    private void thrown(String what, IntSupplier call, Class<?> due) {
        asked++;
        String came;
        try {
            came = "answered " + call.getAsInt();
        } catch (RuntimeException e) {
            if (e.getClass() == due) {
                return;
            }
            came = "threw " + e;
        }
        wrong++;
        System.out.println(what + ": " + came + ", due is a throw of " + due.getSimpleName());
    }

    /** Ends the test: exit code 1 if an answer was wrong. */
    void end(String name) {
        System.out.println(name + ": " + asked + " answers asked, " + wrong + " not as due");
        if (wrong != 0 || asked == 0) {
            System.exit(1);
        }
    }
}
