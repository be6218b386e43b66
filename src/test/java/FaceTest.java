import java.io.IOException;
import java.lang.reflect.Constructor;
import java.lang.reflect.Field;
import java.lang.reflect.Method;
import java.lang.reflect.Modifier;
import java.nio.file.Files;
import java.nio.file.Path;
import java.util.Arrays;
import java.util.Set;
import java.util.TreeSet;
import java.util.regex.Pattern;

/** The public face, and what LANGUAGE.md rules out and a reader of the source can find. */
public final class FaceTest {
    private static final String SOURCE = "src/main/java/StepsRoundCircle.java";
    private static final int LINES_OF_METHOD = 60;
    private static final String FACE = """
        int letter(int)
        int walk()
        int circle(int)
        int walker(int,int,int,int)
        int change(int,int,int)
        int drop()
        int of(int,int)
        int taken(int,int)
        int place(int,int)
        int marks(int,int,int)
        int lengths(int,int,int)
        int many(int,int,int)
        int seen(int,int,int)
        int split(int,int,int)
        int closest(int,int,int)
        long off(int,int,int)
        int nearer(int,int,int)
        int crowded(int,int,int,int)
        int meeting(int,int,int)
        int shared(int,int,int,int)
        long odds(int,int,int)
        int terms(int,int)
        long convergent(int,int,int)
        int nearest(int,int,int)
        long floors(int,int)
        long rests(int,int)
        long reciprocal(int)
        int lots(int,int,int)
        int list(int,int)
        int put(int,int,int)
        long look(int,int)
        int lays(int,int,int)
        int judge(int,int)
        int steps(int,int)
        int kinds(int,int)
        int undo()
        int image()
        int on()
        int count(int)
        """;
    private static final String[] RULED_OUT = {
        "\\bthrow\\b", "\\bthrows\\b", "\\btry\\b", "\\bcatch\\b", "\\bfinally\\b", "\\bsynchronized\\b",
        "\\bassert\\b", "->", "::", "Exact\\b", "\\bprotected\\b", "\\bstatic *\\{", "\\bpackage\\b",
        "import (?!java\\.util\\.(Arrays|ArrayList|List|Iterator);)", "\\bObject\\b", "\\bThread\\b",
        "\\bSystem\\.(?!arraycopy)", "\\bInteger\\.[A-Z]", "\\bLong\\.[A-Z]", "java\\.lang"};

    private static int wrong = 0;

    public static void main(String[] args) throws IOException {
        face();
        members();
        nested();
        source();
        System.out.println("FaceTest: " + wrong + " wrong");
        if (wrong != 0) {
            System.exit(1);
        }
    }

    private static void check(boolean holds, String otherwise) {
        if (!holds) {
            wrong++;
            System.out.println("FaceTest: " + otherwise);
        }
    }

    private static void face() {
        Set<String> due = new TreeSet<>(Arrays.asList(FACE.split("\n")));
        Set<String> got = new TreeSet<>();
        Set<String> names = new TreeSet<>();
        for (Method method : StepsRoundCircle.class.getDeclaredMethods()) {
            if (!Modifier.isPrivate(method.getModifiers())) {
                check(Modifier.isPublic(method.getModifiers()), "neither public nor private: " + method);
                check(!Modifier.isStatic(method.getModifiers()), "static: " + method);
                got.add(method.getReturnType() + " " + method.getName() + parameters(method.getParameterTypes()));
                names.add(method.getName());
            }
        }
        check(got.equals(due), "the face is " + got);
        for (Method method : StepsRoundCircle.class.getDeclaredMethods()) {
            check(!Modifier.isPrivate(method.getModifiers()) || !names.contains(method.getName()),
                    "a private method with a public name: " + method);
        }
        for (Class<?> inside : StepsRoundCircle.class.getDeclaredClasses()) {
            for (Method method : inside.getDeclaredMethods()) {
                check(!names.contains(method.getName()), "a method inside with a public name: " + method);
                check(method.getParameterCount() <= 7, "too many parameters: " + method);
            }
        }
    }

    private static String parameters(Class<?>[] types) {
        return Arrays.stream(types).map(Class::getName).toList().toString()
                .replace("[", "(").replace("]", ")").replace(" ", "");
    }

    private static void members() {
        int modifiers = StepsRoundCircle.class.getModifiers();
        check(Modifier.isPublic(modifiers) && Modifier.isFinal(modifiers), "the class is public and final");
        Constructor<?>[] constructors = StepsRoundCircle.class.getDeclaredConstructors();
        check(constructors.length == 1 && constructors[0].getParameterCount() == 0
                && Modifier.isPublic(constructors[0].getModifiers()), "one public constructor");
        int own = 0;
        for (Field field : StepsRoundCircle.class.getDeclaredFields()) {
            int of = field.getModifiers();
            check(Modifier.isPrivate(of), "not private: " + field);
            check(!Modifier.isStatic(of) || Modifier.isFinal(of), "static, not final: " + field);
            own += Modifier.isStatic(of) ? 0 : 1;
        }
        check(own <= 20, "too many fields: " + own);
    }

    private static void nested() {
        Class<?>[] inside = StepsRoundCircle.class.getDeclaredClasses();
        check(inside.length < 12, "too many classes");
        for (Class<?> each : inside) {
            int of = each.getModifiers();
            check(Modifier.isStatic(of), "not static: " + each);
            check(!Modifier.isPublic(of) && !Modifier.isProtected(of), "to be seen outside: " + each);
        }
    }

    private static void source() throws IOException {
        String text = Files.readString(Path.of(SOURCE));
        check(text.chars().allMatch(c -> c == '\n' || c >= 32 && c < 127), "a sign above 126, or a control");
        String code = text.replaceAll("(?s)/\\*.*?\\*/", "").replaceAll("//[^\n]*", "");
        for (String pattern : RULED_OUT) {
            check(!Pattern.compile(pattern).matcher(code).find(), "ruled out: " + pattern);
        }
        methodLengths(text);
    }

    /** A method begins where a line ends with ") {" and is indented as a member is. */
    private static void methodLengths(String text) {
        String[] lines = text.split("\n");
        for (int i = 0; i < lines.length; i++) {
            for (String indent : new String[] {"    ", "        "}) {
                if (lines[i].startsWith(indent) && !lines[i].startsWith(indent + " ") && lines[i].endsWith(") {")) {
                    int end = i;
                    while (end < lines.length && !lines[end].equals(indent + "}")) {
                        end++;
                    }
                    check(end - i < LINES_OF_METHOD, "too long: " + lines[i].trim());
                }
            }
        }
    }
}
