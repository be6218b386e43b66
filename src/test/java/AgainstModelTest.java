import java.util.ArrayList;
import java.util.List;
import java.util.Random;

/** Runs of drawn calls, always the same ones, on the class and on the Model. */
public final class AgainstModelTest {
    private static final int RUNS = 1500;
    private static final int CALLS_OF_RUN = 512;
    private static final int[] ODD = {-2147483648, -2147483647, -1000, -2, -1, 0, 1, 2, 3, 4, 5, 6, 9, 10, 16,
        39, 40, 41, 50, 51, 99, 100, 199, 200, 201, 1999, 2000, 2001, 3999, 4000, 4001, 2147483647};
    /** Each call with how its arguments are drawn: see argument(). */
    private static final String[] FORMS = {
        "circle q", "walker d v v f", "walker d v v f", "change w 0 d", "change w 1 v", "change w 2 v",
        "change w 3 f", "change w t p", "drop", "of w o", "of w o", "taken w d", "place w k", "place w k",
        "marks w n t", "lengths w n j", "lengths w n j", "many w n j", "seen w n j", "split w n b", "split w n b",
        "closest w n b", "off w n b", "nearer w n j", "crowded w n m b", "meeting w w b", "shared w w n b",
        "odds w n b", "terms w j", "convergent w i b", "nearest w e b", "floors w k", "rests w k", "reciprocal w",
        "lots u z b", "list l s", "list l s", "put l x p", "put l x p", "look l x", "lays l 0 w", "lays l x w",
        "judge l w", "steps l b", "kinds l w", "undo", "image", "on", "count c", "walk", "letter a"};

    private final Random random;
    private final Model model = new Model();
    private final StepsRoundCircle object = new StepsRoundCircle();
    private final List<String> told = new ArrayList<>();
    /** Some runs keep to small circles, where PLACES meet often. */
    private final boolean small;

    private AgainstModelTest(int seed) {
        random = new Random(seed);
        small = random.nextInt(3) > 0;
    }

    public static void main(String[] args) {
        for (int seed = 0; seed < RUNS; seed++) {
            if (!new AgainstModelTest(seed).run()) {
                System.exit(1);
            }
        }
        System.out.println("AgainstModelTest: " + RUNS + " runs of " + CALLS_OF_RUN + " calls, all alike");
    }

    private boolean run() {
        int left = CALLS_OF_RUN;
        while (left > 0) {
            if (random.nextInt(60) == 0) {
                for (char c : text().toCharArray()) {
                    left--;
                    if (left >= 0 && !alike("letter", new int[] {c})) {
                        return false;
                    }
                }
                left--;
                if (left >= 0 && !alike("walk", new int[0])) {
                    return false;
                }
            } else {
                left--;
                if (!drawnCall()) {
                    return false;
                }
            }
        }
        return true;
    }

    private boolean drawnCall() {
        String[] words = FORMS[random.nextInt(FORMS.length)].split(" ");
        if ((words[0].equals("on") || words[0].equals("drop") || words[0].equals("walk")) && random.nextInt(3) > 0) {
            return true;
        }
        int[] arguments = new int[words.length - 1];
        for (int i = 0; i < arguments.length; i++) {
            arguments[i] = random.nextInt(40) == 0 ? ODD[random.nextInt(ODD.length)] : argument(words[i + 1]);
        }
        return alike(words[0], arguments);
    }

    private int argument(String form) {
        int q = model.circleSize();
        switch (form.charAt(0)) {
            case 'q': return small ? 2 + random.nextInt(40) : random.nextInt(2002);
            case 'd': return random.nextInt(6);
            case 'v': return random.nextInt(8) == 0 ? q - 1 : random.nextInt(q);
            case 'f': return random.nextInt(10);
            case 'w': return random.nextInt(Math.max(1, model.walkerCount()));
            case 't': return random.nextInt(3);
            case 'o': return random.nextInt(5);
            case 'k': return random.nextInt(random.nextBoolean() ? 30 : 4001);
            case 'n': return 1 + random.nextInt(random.nextBoolean() ? 12 : 200);
            case 'j': return random.nextInt(6) - 1;
            case 'b': return random.nextInt(2);
            case 'm': return 1 + random.nextInt(9);
            case 'i': return random.nextInt(8);
            case 'e': return 1 + random.nextInt(99);
            case 'u': return 1 + random.nextInt(50);
            case 'z': return random.nextInt();
            case 'l': return random.nextInt(3);
            case 's': return random.nextInt(random.nextBoolean() ? 5 : 41);
            case 'x': return random.nextInt(6);
            case 'p': return random.nextInt(q + 2) - 1;
            case 'c': return random.nextInt(18);
            case 'a': return random.nextInt(256);
            default: return Integer.parseInt(form);
        }
    }

    private String text() {
        StringBuilder text = new StringBuilder();
        int statements = 1 + random.nextInt(6);
        for (int i = 0; i < statements; i++) {
            text.append(statement());
        }
        if (random.nextInt(6) == 0) {
            text.setCharAt(random.nextInt(text.length()), "cwsx;0123456789 :/"
                    .charAt(random.nextInt(18)));
        }
        if (random.nextInt(8) == 0) {
            text.setLength(random.nextInt(text.length()));
        }
        return text.toString();
    }

    private String statement() {
        int walker = random.nextInt(random.nextInt(8) == 0 ? 10 : Math.max(1, model.walkerCount()));
        int greatest = random.nextInt(10) == 0 ? 2100 : model.circleSize();
        switch (random.nextInt(4)) {
            case 0:
                return String.format("c%04d;", small ? random.nextInt(60) : random.nextInt(2100));
            case 1:
                return String.format("w%d%04d%04d%d;", random.nextInt(random.nextInt(8) == 0 ? 10 : 6),
                        random.nextInt(greatest), random.nextInt(greatest), random.nextInt(10));
            case 2:
                return String.format("s%d%04d;", walker, random.nextInt(greatest));
            default:
                return String.format("x%d;", walker);
        }
    }

    private boolean alike(String name, int[] arguments) {
        long due = model.call(name, arguments);
        long got = Calls.call(object, name, arguments);
        told.add(name + java.util.Arrays.toString(arguments) + " = " + got);
        if (got != due) {
            System.out.println(String.join("\n", told));
            System.out.println("due is " + due);
        }
        return got == due;
    }
}
