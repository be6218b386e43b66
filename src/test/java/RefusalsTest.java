import java.util.ArrayList;
import java.util.Arrays;
import java.util.List;
import java.util.TreeSet;

/**
 * Every call with every mix of right and wrong arguments, in a new, an ordinary and a full object:
 * the first REFUSAL that fits in the document's order is answered, and a refused call changes nothing
 * but how many there were. What is not refused answers and changes as the Model says.
 *
 * A row is "name | REFUSALS in the document's order | options of each argument | ..": an option is a
 * right number, or "number:refusal". "also refusal" stands for one that fits whatever the arguments
 * are, "twice" for two WALKERS that must not be the same.
 */
public final class RefusalsTest {
    private static final long FAR = 4000000000000000000L;
    private static final List<String> LONGS =
            List.of("off", "odds", "convergent", "floors", "rests", "reciprocal", "look");
    private static final int LEAST_COUNTED = -6;
    private static final int CALLS_OF_OBJECT = 512;

    /** No WALKERS, no letters, no LISTS, no IMAGE, nothing to be UNDONE. */
    private static final String NEW = "";
    /** WALKERS 0 .. 2; LIST 0 of three PLACES, LIST 1 of none, LIST 2 missing. */
    private static final String ORDINARY = """
        walker 0 38 5 0
        walker 3 50 60 9
        image
        walker 4 7 99 2
        change 2 1 8
        change 1 2 61
        list 0 3
        lays 0 0 0
        list 1 0
        letters s00001;
        """;
    /** Five WALKERS, 72 letters, LISTS of 40, of 40 with what is no PLACE, of one; 16 of 22 changes. */
    private static final String FULL = """
        circle 1000
        walker 0 381 5 0
        walker 1 7 0 3
        walker 2 38 5 0
        image
        walker 3 13 999 2
        walker 4 999 9 9
        list 0 40
        lays 0 0 1
        list 1 40
        put 1 39 1000
        list 2 1
        letters x4;x3;x2;c0500;x0;s00001;s00002;s00003;s00004;s00005;s00006;c0490;c0480;
        changes
        change 3 2 999
        change 4 1 998
        """;

    private static final String NO_WALKER = "-2147483648:-1 -1:-1 0:-1 1:-1 2147483647:-1";
    private static final String WALKER_3 = "0 2 -2147483648:-1 -1:-1 3:-1 2147483647:-1";
    private static final String WALKER_5 = "0 4 -2147483648:-1 -1:-1 5:-1 2147483647:-1";
    private static final String BEHIND = "1 200 -2147483648:-4 0:-4 201:-6 2147483647:-6";
    private static final String WHAT_2 = "0 1 -2147483648:-2 -1:-2 2:-2 2147483647:-2";
    private static final String FROM_0 = "0 1 2147483647 -1:-4 -2147483648:-4";
    private static final String FROM_MINUS_1 = "-1 0 1 2147483647 -2:-4 -2147483648:-4";
    private static final String TO_4000 = "0 4000 -2147483648:-4 -1:-4 4001:-6 2147483647:-6";
    private static final String KIND = "0 5 -2147483648:-2 -1:-2 6:-2 2147483647:-2";
    private static final String NO_LIST = "-2147483648:-1 -1:-1 3:-1 2147483647:-1";

    /** What goes alike by whichever WALKERS there are. */
    private static final String OF_A_WALKER = """
        taken | -1 -2 -16 | W | 0 -2147483648:-2 -1:-2 6:-2 2147483647:-2
        of | -1 -2 | W | 0 4 -2147483648:-2 -1:-2 5:-2 2147483647:-2
        place | -1 -4 -6 | W | TO_4000
        marks | -1 -4 -6 -2 | W | BEHIND | 0 2 -2147483648:-2 -1:-2 3:-2 2147483647:-2
        lengths | -1 -4 -6 | W | BEHIND | FROM_MINUS_1
        many | -1 -4 -6 | W | BEHIND | FROM_0
        seen | -1 -4 -6 | W | BEHIND | FROM_0
        split | -1 -4 -6 -2 | W | BEHIND | WHAT_2
        closest | -1 -4 -6 -2 | W | BEHIND | WHAT_2
        off | -1 -4 -6 -2 | W | BEHIND | WHAT_2
        nearer | -1 -4 -6 | W | BEHIND | FROM_MINUS_1
        crowded | -1 -4 -6 -2 | W | BEHIND | 1 9 -2147483648:-4 0:-4 10:-6 2147483647:-6 | 0 1 -1:-2 2:-2
        meeting | -1 -2 | W | W | WHAT_2 | twice
        shared | -1 -4 -6 -2 | W | W | 1 200 0:-4 201:-6 | 0 1 -1:-2 2:-2 | twice
        odds | -1 -4 -6 -2 | W | BEHIND | WHAT_2
        terms | -1 -4 | W | FROM_MINUS_1
        convergent | -1 -4 -6 -2 | W | 0 1 -2147483648:-4 -1:-4 20:-6 2147483647:-6 | WHAT_2
        nearest | -1 -4 -6 -2 | W | 1 99 -2147483648:-4 0:-4 100:-6 2147483647:-6 | WHAT_2
        floors | -1 -4 -6 | W | TO_4000
        rests | -1 -4 -6 | W | TO_4000
        reciprocal | -1 | W
        list | -1 -6 -14 | 0 1 2 NO_LIST | 0 40 -2147483648:-14 -1:-14 41:-6 2147483647:-6
        image |
        """;

    private static final String ROWS_NEW = """
        letter | -4 -6 | 0 255 -2147483648:-4 -1:-4 256:-6 2147483647:-6
        circle | -4 -6 -3 | 2 2000 -2147483648:-4 1:-4 2001:-6 2147483647:-6
        walker | -2 -4 -6 | KIND | 0 99 -1:-4 100:-6 | 0 99 -1:-4 100:-6 | 0 9 -1:-4 10:-6
        change | -1 -2 -4 -6 | W | 0 3 -1:-2 4:-2 | 0 5 -1:-4 2147483647:-6
        drop | -3 | also -3
        lots | -4 -6 -2 -3 | 1 50 -2147483648:-4 0:-4 51:-6 2147483647:-6 | 0 -2147483648 | WHAT_2 | also -3
        put | -1 -11 -13 | 0:-11 2:-11 NO_LIST | 0:-13 -1:-13 40:-13 | 7
        look | -1 -11 -13 | 0:-11 2:-11 NO_LIST | 0:-13 -1:-13 40:-13
        lays | -1 -11 -13 | 0:-11 2:-11 NO_LIST | 0:-13 -1:-13 40:-13 | W
        judge | -1 -11 | 0:-11 2:-11 NO_LIST | W
        steps | -1 -2 -11 -3 | 0:-11 2:-11 NO_LIST | WHAT_2
        kinds | -1 -11 -3 | 0:-11 2:-11 NO_LIST | W
        undo | -3 | also -3
        on | -3 | also -3
        """;

    private static final String ROWS_ORDINARY = """
        letter | -4 -6 | 0 255 -2147483648:-4 -1:-4 256:-6 2147483647:-6
        circle | -4 -6 -3 | 100 2000 1:-4 2001:-6 2:-3 61:-3 99:-3
        walker | -2 -4 -6 | KIND | 0 99 -1:-4 100:-6 | 0 99 -1:-4 100:-6 | 0 9 -1:-4 10:-6
        change | -1 -2 -4 -6 | W | 0 | 0 5 -2147483648:-4 -1:-4 6:-6 2147483647:-6
        change | -1 -2 -4 -6 | W | 1 2 | 0 99 -2147483648:-4 -1:-4 100:-6 2147483647:-6
        change | -1 -2 -4 -6 | W | 3 | 0 9 -2147483648:-4 -1:-4 10:-6 2147483647:-6
        change | -1 -2 -4 -6 | W | -2147483648:-2 -1:-2 4:-2 2147483647:-2 | 0 -1:-4 2147483647:-6
        drop | -3
        taken | -1 -2 -16 | 2 | 0 2 4 1:-16 3:-16 5:-16
        lots | -4 -6 -2 -3 | 1 50 -2147483648:-4 0:-4 51:-6 2147483647:-6 | 0 -2147483648 | WHAT_2
        put | -1 -11 -13 | 0 2:-11 NO_LIST | 0 2 -2147483648:-13 -1:-13 3:-13 2147483647:-13 | -2147483648 7
        put | -1 -11 -13 | 1 | 0:-13 -1:-13 1:-13 | 7
        look | -1 -11 -13 | 0 2:-11 NO_LIST | 0 2 -2147483648:-13 -1:-13 3:-13 2147483647:-13
        look | -1 -11 -13 | 1 | 0:-13 -1:-13 1:-13
        lays | -1 -11 -13 | 0 2:-11 NO_LIST | 0 2 -2147483648:-13 -1:-13 3:-13 4:-13 2147483647:-13 | W
        lays | -1 -11 -13 | 1 | 0:-13 -1:-13 1:-13 | W
        judge | -1 -11 | 0 1 2:-11 NO_LIST | W
        steps | -1 -2 -11 -3 | 0 1:-3 2:-11 NO_LIST | WHAT_2
        kinds | -1 -11 -3 | 0 1:-3 2:-11 NO_LIST | W
        undo | -3
        on | -3
        """;

    private static final String ROWS_FULL = """
        letter | -4 -6 | 0 120 255 -2147483648:-4 -1:-4 256:-6 2147483647:-6 | also -6
        circle | -4 -6 -3 | 1000 2000 -1:-4 1:-4 2001:-6 2:-3 999:-3
        walker | -2 -4 -6 | KIND | 0 999 -1:-4 1000:-6 | 0 999 -1:-4 1000:-6 | 0 9 -1:-4 10:-6 | also -6
        change | -1 -2 -4 -6 | W | 0 | 0 5 -1:-4 6:-6
        change | -1 -2 -4 -6 | W | 1 2 | 0 999 -1:-4 1000:-6
        change | -1 -2 -4 -6 | W | 3 | 0 9 -1:-4 10:-6
        change | -1 -2 -4 -6 | W | -1:-2 4:-2 | 0 -1:-4 2147483647:-6
        drop | -3
        lots | -4 -6 -2 -3 | 1 50 0:-4 51:-6 | 2147483647 -1 | WHAT_2
        put | -1 -11 -13 | 0 1 NO_LIST | 0 39 -1:-13 40:-13 | 7
        put | -1 -11 -13 | 2 | 0 -1:-13 1:-13 | 7
        look | -1 -11 -13 | 0 1 NO_LIST | 0 39 -1:-13 40:-13
        look | -1 -11 -13 | 2 | 0 -1:-13 1:-13
        lays | -1 -11 -13 | 0 1 NO_LIST | 0 39 -1:-13 40:-13 41:-13 | W
        lays | -1 -11 -13 | 2 | 0 -1:-13 1:-13 | W
        judge | -1 -11 | 0 1 2 NO_LIST | W
        steps | -1 -2 -11 -3 | 0 1:-3 2:-3 NO_LIST | WHAT_2
        kinds | -1 -11 -3 | 0 1:-3 2:-3 NO_LIST | W
        undo | -3
        on | -3
        """;

    /** A call with its arguments, ready to be made. */
    private record Call(String name, int[] arguments) {
        @Override
        public String toString() {
            return name + Arrays.toString(arguments);
        }
    }

    /** A number for an argument, and the REFUSAL that it brings; 0 if none. */
    private record Option(int number, int refusal) {
    }

    private final String state;
    private final List<Call> setup;
    private final List<Call> probe;
    private final TreeSet<String> names = new TreeSet<>();
    private int refusedCalls = 0;
    private int rightCalls = 0;
    private int wrong = 0;

    private RefusalsTest(String state, String setup, int walkers) {
        this.state = state;
        this.setup = calls(setup);
        this.probe = probe(walkers);
        if (this.setup.size() + this.probe.size() + 1 > CALLS_OF_OBJECT) {
            throw new IllegalStateException("too many calls for one object");
        }
    }

    public static void main(String[] args) {
        int wrong = new RefusalsTest("new", NEW, 0).run(ROWS_NEW, NO_WALKER)
                + new RefusalsTest("ordinary", ORDINARY, 3).run(ROWS_ORDINARY, WALKER_3)
                + new RefusalsTest("full", FULL, 5).run(ROWS_FULL, WALKER_5);
        if (wrong != 0) {
            System.exit(1);
        }
    }

    private int run(String rows, String walkers) {
        for (String row : (OF_A_WALKER + rows).split("\n")) {
            row(row.replace("NO_LIST", NO_LIST).replace("TO_4000", TO_4000).replace("BEHIND", BEHIND)
                    .replace("WHAT_2", WHAT_2).replace("FROM_0", FROM_0).replace("FROM_MINUS_1", FROM_MINUS_1)
                    .replace("KIND", KIND).replace("| W", "| " + walkers));
        }
        // walk is never refused and count answers -9 alone: all others stand in the rows
        if (names.size() != 37) {
            wrong++;
            System.out.println("RefusalsTest: calls that were made: " + names);
        }
        System.out.println("RefusalsTest: " + state + ": " + refusedCalls + " refused calls, " + rightCalls
                + " others, " + wrong + " wrong");
        return wrong;
    }

    private void row(String row) {
        String[] parts = row.split("\\|");
        String name = parts[0].trim();
        List<Integer> order = numbers(parts.length > 1 ? parts[1] : "");
        List<List<Option>> arguments = new ArrayList<>();
        int also = 0;
        boolean twice = false;
        for (int i = 2; i < parts.length; i++) {
            String part = parts[i].trim();
            if (part.startsWith("also ")) {
                also = Integer.parseInt(part.substring("also ".length()));
            } else if (part.equals("twice")) {
                twice = true;
            } else {
                arguments.add(options(part));
            }
        }
        names.add(name);
        mix(name, order, arguments, new ArrayList<>(), also, twice);
    }

    private static List<Integer> numbers(String text) {
        return Arrays.stream(text.trim().split(" +")).filter(word -> !word.isEmpty()).map(Integer::valueOf).toList();
    }

    private static List<Option> options(String text) {
        List<Option> options = new ArrayList<>();
        for (String word : text.split(" +")) {
            String[] sides = word.split(":");
            options.add(new Option(Integer.parseInt(sides[0]), sides.length > 1 ? Integer.parseInt(sides[1]) : 0));
        }
        return options;
    }

    private void mix(String name, List<Integer> order, List<List<Option>> arguments, List<Option> taken, int also,
            boolean twice) {
        if (taken.size() < arguments.size()) {
            for (Option option : arguments.get(taken.size())) {
                taken.add(option);
                mix(name, order, arguments, taken, also, twice);
                taken.remove(taken.size() - 1);
            }
            return;
        }
        Call call = new Call(name, taken.stream().mapToInt(Option::number).toArray());
        TreeSet<Integer> fitting = new TreeSet<>();
        taken.forEach(option -> fitting.add(option.refusal()));
        fitting.add(also);
        if (twice && call.arguments()[0] == call.arguments()[1]) {
            fitting.add(-1);
        }
        for (int refusal : order) {
            if (fitting.contains(refusal)) {
                refused(call, refusal);
                return;
            }
        }
        right(call);
    }

    /** Beside a twin that is not called: all but how many REFUSALS there were stays alike. */
    private void refused(Call call, int refusal) {
        refusedCalls++;
        StepsRoundCircle object = made();
        StepsRoundCircle twin = made();
        long due = LONGS.contains(call.name()) ? FAR - refusal : refusal;
        due(call, "answers", make(object, call), due);
        for (Call each : probe) {
            long more = refusal >= LEAST_COUNTED && each.name().equals("count")
                    && each.arguments()[0] == 10 - refusal ? 1 : 0;
            due(call, "behind it " + each, make(object, each), make(twin, each) + more);
        }
    }

    private void right(Call call) {
        rightCalls++;
        StepsRoundCircle object = made();
        Model model = new Model();
        for (Call each : setup) {
            model.call(each.name(), each.arguments());
        }
        due(call, "answers", make(object, call), model.call(call.name(), call.arguments()));
        for (Call each : probe) {
            due(call, "behind it " + each, make(object, each), model.call(each.name(), each.arguments()));
        }
    }

    private void due(Call call, String what, long got, long due) {
        if (got != due) {
            wrong++;
            System.out.println("RefusalsTest: " + state + ": " + call + ": " + what + ": " + got + ", due is " + due);
        }
    }

    private static long make(StepsRoundCircle object, Call call) {
        return Calls.call(object, call.name(), call.arguments());
    }

    private StepsRoundCircle made() {
        StepsRoundCircle object = new StepsRoundCircle();
        for (Call each : setup) {
            make(object, each);
        }
        return object;
    }

    private static List<Call> calls(String text) {
        List<Call> calls = new ArrayList<>();
        for (String row : text.split("\n")) {
            String[] words = row.trim().split(" +");
            if (words[0].equals("letters")) {
                words[1].chars().forEach(c -> calls.add(new Call("letter", new int[] {c})));
            } else if (words[0].equals("changes")) {
                for (int i = 0; i < 20; i++) {
                    calls.add(new Call("change", new int[] {i % 5, 1 + i % 3, i % 10}));
                }
            } else if (!words[0].isEmpty()) {
                calls.add(new Call(words[0], Arrays.stream(words).skip(1).mapToInt(Integer::parseInt).toArray()));
            }
        }
        return calls;
    }

    /** What can be seen from outside: counts, WALKERS, LISTS, then by undo, ON and the letters. */
    private static List<Call> probe(int walkers) {
        List<Call> probe = new ArrayList<>();
        for (int what = 0; what < 18; what++) {
            probe.add(new Call("count", new int[] {what}));
        }
        addWalkers(probe, walkers + 1);
        for (int i = 0; i <= 40; i++) {
            probe.add(new Call("look", new int[] {0, i}));
        }
        for (int i = 0; i < 4; i++) {
            probe.add(new Call("look", new int[] {1, i}));
            probe.add(new Call("look", new int[] {2, i}));
        }
        for (int i = 0; i < 17; i++) {
            probe.add(new Call("undo", new int[0]));
            for (int walker = 0; walker < walkers; walker++) {
                probe.add(new Call("place", new int[] {walker, 3}));
            }
        }
        probe.add(new Call("count", new int[] {1}));
        addWalkers(probe, walkers);
        probe.add(new Call("walk", new int[0]));
        probe.add(new Call("count", new int[] {1}));
        addWalkers(probe, walkers);
        probe.add(new Call("on", new int[0]));
        probe.add(new Call("count", new int[] {1}));
        addWalkers(probe, walkers);
        return probe;
    }

    private static void addWalkers(List<Call> calls, int walkers) {
        for (int walker = 0; walker < walkers; walker++) {
            for (int what = 0; what < 4; what++) {
                calls.add(new Call("of", new int[] {walker, what}));
            }
        }
    }
}
