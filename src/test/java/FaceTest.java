import java.io.IOException;
import java.lang.reflect.Constructor;
import java.lang.reflect.Executable;
import java.lang.reflect.Field;
import java.lang.reflect.Member;
import java.lang.reflect.Method;
import java.lang.reflect.Modifier;
import java.nio.file.Path;
import java.util.Arrays;
import java.util.Set;
import java.util.TreeSet;
import java.util.regex.MatchResult;
import java.util.regex.Pattern;
import java.util.stream.Collectors;

/** The class has just the face that the document tells: no member more is seen from outside, and none less. */
public final class FaceTest {
    /** The constant, the constructor and the methods of promises 2 to 19. */
    private static final int MEMBERS = 20;
    private static final Pattern TOLD = Pattern.compile("public [^;{]*(?=;)");

    public static void main(String[] args) throws IOException, IllegalAccessException {
        Checks checks = new Checks();
        Set<String> due = toldBy(new Document(Path.of("..", "shared", "DOC.md")));
        Set<String> seen = seenFromOutside();
        checks.same("members told", due.size(), MEMBERS);
        for (String member : due) {
            checks.same("there is " + member, seen.contains(member) ? 1 : 0, 1);
        }
        for (String member : seen) {
            checks.same("the document tells " + member, due.contains(member) ? 1 : 0, 1);
        }
        checks.same("public and final", KnotBand.class.getModifiers(), Modifier.PUBLIC | Modifier.FINAL);
        checks.sameText("the class above", KnotBand.class.getSuperclass().getName(), "java.lang.Object");
        checks.same("the interfaces", KnotBand.class.getInterfaces().length, 0);
        checks.same("a private method with a public one's name", namesTwice(), 0);
        for (Class<?> inside : KnotBand.class.getDeclaredClasses()) {
            int kind = inside.getModifiers() & (Modifier.PUBLIC | Modifier.PROTECTED | Modifier.STATIC);
            checks.same("only static " + inside.getSimpleName(), kind, Modifier.STATIC);
        }
        checks.end("FaceTest");
    }

    /** The members as the document writes them, but for the names of parameters, which are free. */
    private static Set<String> toldBy(Document document) {
        return TOLD.matcher(document.wordsOf("The public face")).results()
            .map(MatchResult::group)
            .map(member -> member.replaceAll("int \\w+(?=[,)])", "int"))
            .collect(Collectors.toCollection(TreeSet::new));
    }

    private static Set<String> seenFromOutside() throws IllegalAccessException {
        Set<String> seen = new TreeSet<>();
        for (Method method : KnotBand.class.getDeclaredMethods()) {
            if (isSeen(method)) {
                seen.add(modifiers(method) + method.getReturnType() + " " + method.getName() + takesAndThrows(method));
            }
        }
        for (Constructor<?> constructor : KnotBand.class.getDeclaredConstructors()) {
            if (isSeen(constructor)) {
                seen.add(modifiers(constructor) + constructor.getName() + takesAndThrows(constructor));
            }
        }
        for (Field field : KnotBand.class.getDeclaredFields()) {
            if (isSeen(field)) {
                seen.add(modifiers(field) + field.getType() + " " + field.getName() + valueOf(field));
            }
        }
        return seen;
    }

    private static boolean isSeen(Member member) {
        return !Modifier.isPrivate(member.getModifiers());
    }

    private static String modifiers(Member member) {
        return Modifier.toString(member.getModifiers()) + " ";
    }

    private static String takesAndThrows(Executable executable) {
        String takes = "(" + simpleNames(executable.getParameterTypes()) + ")";
        Class<?>[] thrown = executable.getExceptionTypes();
        return thrown.length == 0 ? takes : takes + " throws " + simpleNames(thrown);
    }

    private static String simpleNames(Class<?>[] types) {
        return Arrays.stream(types).map(Class::getSimpleName).collect(Collectors.joining(", "));
    }

    private static String valueOf(Field field) throws IllegalAccessException {
        return Modifier.isStatic(field.getModifiers()) ? " = " + field.get(null) : "";
    }

    private static int namesTwice() {
        int twice = 0;
        for (Method method : KnotBand.class.getDeclaredMethods()) {
            if (Modifier.isPrivate(method.getModifiers()) && hasPublic(method.getName())) {
                twice++;
            }
        }
        return twice;
    }

    private static boolean hasPublic(String name) {
        for (Method method : KnotBand.class.getDeclaredMethods()) {
            if (Modifier.isPublic(method.getModifiers()) && method.getName().equals(name)) {
                return true;
            }
        }
        return false;
    }
}
