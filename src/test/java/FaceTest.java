import java.lang.reflect.Constructor;
import java.lang.reflect.Field;
import java.lang.reflect.Method;
import java.lang.reflect.Modifier;
import java.util.Arrays;
import java.util.Set;
import java.util.TreeSet;

/** The class has just the document's face: no member more is seen from outside, and none less. */
public final class FaceTest {
    private static final String[] DUE = {
        "public int band(int)",
        "public int colour(int,int,int) throws java.util.NoSuchElementException,java.lang.IllegalArgumentException",
        "public int row(int,int) throws java.util.NoSuchElementException",
        "public int knot(int,int,int,int) throws java.util.NoSuchElementException,java.lang.IllegalArgumentException",
        "public int shows(int,int,int) throws java.util.NoSuchElementException",
        "public int thread(int,int,int) throws java.util.NoSuchElementException",
        "public int used(int,int) throws java.util.NoSuchElementException",
        "public int home(int,int) throws java.util.NoSuchElementException",
        "public int unlike(int,int) throws java.util.NoSuchElementException,java.lang.IllegalArgumentException",
        "public int picture(int,int)",
        "public int see(int,int,int,int) throws java.util.NoSuchElementException,java.lang.IllegalArgumentException",
        "public int must(int,int,int) throws java.util.NoSuchElementException,java.lang.IllegalArgumentException",
        "public boolean copy(int,int) throws java.util.NoSuchElementException",
        "public int starts(int) throws java.util.NoSuchElementException",
        "public int start(int,int) throws java.util.NoSuchElementException",
        "public int tie(int) throws java.util.NoSuchElementException",
        "public int suspect(int,int) throws java.util.NoSuchElementException",
        "public int count(int) throws java.util.NoSuchElementException",
        "public KnotBand()",
        "public static final int NONE",
    };

    public static void main(String[] args) {
        Checks checks = new Checks();
        Set<String> due = new TreeSet<>(Arrays.asList(DUE));
        Set<String> seen = seenFromOutside();
        for (String member : due) {
            checks.same("there is " + member, seen.contains(member) ? 1 : 0, 1);
        }
        for (String member : seen) {
            checks.same("the document tells " + member, due.contains(member) ? 1 : 0, 1);
        }
        checks.same("public and final", KnotBand.class.getModifiers(), Modifier.PUBLIC | Modifier.FINAL);
        checks.same("NONE", KnotBand.NONE, -1);
        checks.same("a private method with a public one's name", namesTwice(), 0);
        checks.end("FaceTest");
    }

    private static Set<String> seenFromOutside() {
        Set<String> seen = new TreeSet<>();
        for (Method method : KnotBand.class.getDeclaredMethods()) {
            if (!Modifier.isPrivate(method.getModifiers())) {
                seen.add(plain(method.toString()));
            }
        }
        for (Constructor<?> constructor : KnotBand.class.getDeclaredConstructors()) {
            if (!Modifier.isPrivate(constructor.getModifiers())) {
                seen.add(plain(constructor.toString()));
            }
        }
        for (Field field : KnotBand.class.getDeclaredFields()) {
            if (!Modifier.isPrivate(field.getModifiers())) {
                seen.add(plain(field.toString()));
            }
        }
        return seen;
    }

    private static String plain(String member) {
        return member.replace("KnotBand.", "");
    }

    private static int namesTwice() {
        int twice = 0;
        for (Method method : KnotBand.class.getDeclaredMethods()) {
            if (Modifier.isPrivate(method.getModifiers()) && hasPublic(method.getName())) {
                twice++;
            }
        }
        return twice;
    }

    private static boolean hasPublic(String name) {
        for (Method method : KnotBand.class.getDeclaredMethods()) {
            if (Modifier.isPublic(method.getModifiers()) && method.getName().equals(name)) {
                return true;
            }
        }
        return false;
    }
}
