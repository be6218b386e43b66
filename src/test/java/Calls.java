import java.lang.reflect.Method;
import java.util.HashMap;
import java.util.Map;

/**
 * Runs of calls on new objects, written as rows: "name arguments = answer".
 * "= long -4" is a refusal as a long tells it; "letters abc" lets the letters come one by one.
 */
final class Calls {
    private static final Map<String, Method> METHODS = new HashMap<>();
    static {
        for (Method method : StepsRoundCircle.class.getDeclaredMethods()) {
            if (java.lang.reflect.Modifier.isPublic(method.getModifiers())) {
                METHODS.put(method.getName(), method);
            }
        }
    }

    private final String test;
    private int rows = 0;
    private int wrong = 0;

    Calls(String test) {
        this.test = test;
    }

    void run(String about, String text) {
        StepsRoundCircle object = new StepsRoundCircle();
        for (String line : text.split("\n")) {
            String row = line.trim();
            if (row.startsWith("letters ")) {
                for (char c : row.substring("letters ".length()).toCharArray()) {
                    object.letter(c);
                }
            } else if (!row.isEmpty()) {
                check(object, about, row);
            }
        }
    }

    private void check(StepsRoundCircle object, String about, String row) {
        String[] sides = row.split(" = ");
        if (sides.length != 2) {
            throw new IllegalStateException("no row: " + row);
        }
        due(about, row, call(object, sides[0].trim()), answer(sides[1].trim()));
    }

    private static long answer(String told) {
        return told.startsWith("long ")
                ? 4000000000000000000L - Long.parseLong(told.substring("long ".length()))
                : Long.parseLong(told);
    }

    static long call(StepsRoundCircle object, String told) {
        String[] words = told.split(" +");
        int[] arguments = new int[words.length - 1];
        for (int i = 0; i < arguments.length; i++) {
            arguments[i] = Integer.parseInt(words[i + 1]);
        }
        return call(object, words[0], arguments);
    }

    static long call(StepsRoundCircle object, String name, int[] arguments) {
        Method method = METHODS.get(name);
        if (method == null) {
            throw new IllegalStateException("no call: " + name);
        }
        Object[] boxed = new Object[arguments.length];
        for (int i = 0; i < boxed.length; i++) {
            boxed[i] = arguments[i];
        }
        try {
            return ((Number) method.invoke(object, boxed)).longValue();
        } catch (ReflectiveOperationException e) {
            throw new IllegalStateException(name + " threw", e);
        }
    }

    void due(String about, String call, long got, long want) {
        rows++;
        if (got != want) {
            wrong++;
            System.out.println(test + ": " + about + ": " + call + ": answered " + got + ", due is " + want);
        }
    }

    void end() {
        System.out.println(test + ": " + rows + " answers, " + wrong + " wrong");
        if (wrong != 0 || rows == 0) {
            System.exit(1);
        }
    }
}
