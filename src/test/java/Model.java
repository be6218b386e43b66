import java.math.BigInteger;
import java.util.ArrayList;
import java.util.Arrays;
import java.util.List;
import java.util.TreeMap;
import java.util.TreeSet;
import java.util.regex.Matcher;
import java.util.regex.Pattern;

/**
 * The document once more, by the Java library and by trying out all there is, so that a slip
 * in the class is not likely to stand here too. Answers ints and longs alike as a long.
 */
final class Model {
    private static final long FAR = 4000000000000000000L;
    private static final Pattern STATEMENT =
            Pattern.compile("c(\\d{4});|w(\\d)(\\d{4})(\\d{4})(\\d);|s(\\d)(\\d{4});|x(\\d);");
    private static final String[] FORMS = {"cdddd;", "wdddddddddd;", "sddddd;", "xd;"};

    /** A REFUSAL on its way to the answer. */
    private static final class Refused extends RuntimeException {
        private static final long serialVersionUID = 1;
        final int number;

        Refused(int number) {
            super(null, null, false, false);
            this.number = number;
        }
    }

    private int q = 100;
    private List<int[]> walkers = new ArrayList<>();
    private final StringBuilder letters = new StringBuilder();
    private final int[][] lists = new int[3][];
    private final List<int[]> undoable = new ArrayList<>();
    private final int[] refused = new int[20];
    private int imageQ = 0;
    private List<int[]> image = null;

    long call(String name, int[] a) {
        boolean isLong = List.of("off", "odds", "convergent", "floors", "rests", "reciprocal", "look").contains(name);
        try {
            return answer(name, a);
        } catch (Refused r) {
            if (r.number >= -6) {
                refused[-r.number]++;
            }
            return isLong ? FAR - r.number : r.number;
        }
    }

    private long answer(String name, int[] a) {
        switch (name) {
            case "letter": return letter(a[0]);
            case "walk": return walk();
            case "circle": return circle(a[0]);
            case "walker": return walker(a);
            case "change": return change(a[0], a[1], a[2]);
            case "drop": return drop();
            case "of": return of(a[0], a[1]);
            case "taken": return taken(a[0], a[1]);
            case "place": nobody(a[0]); below(a[1] < 0); room(a[1] > 4000); return place(a[0], a[1]);
            case "marks": behind(a[0], a[1], a[2], 3); return marks(a[0], a[1], a[2]);
            case "lengths": nth(a[0], a[1], a[2], -1); return lengths(a[0], a[1], a[2]);
            case "many": nth(a[0], a[1], a[2], 0); return many(a[0], a[1], a[2]);
            case "seen": nth(a[0], a[1], a[2], 0); return seen(a[0], a[1], a[2]);
            case "split": behind(a[0], a[1], a[2], 2); return split(a[0], a[1], a[2]);
            case "closest": behind(a[0], a[1], a[2], 2); return closest(a[0], a[1], a[2]);
            case "off": behind(a[0], a[1], a[2], 2); return off(a[0], a[1], a[2]);
            case "nearer": nth(a[0], a[1], a[2], -1); return nearer(a[0], a[1], a[2]);
            case "crowded": return crowded(a[0], a[1], a[2], a[3]);
            case "meeting": return meeting(a[0], a[1], a[2]);
            case "shared": return shared(a[0], a[1], a[2], a[3]);
            case "odds": behind(a[0], a[1], a[2], 2); return part(markSet(a[0], a[1]).size(), q, a[2]);
            case "terms": nobody(a[0]); below(a[1] < -1); return terms(a[0], a[1]);
            case "convergent": return convergent(a[0], a[1], a[2]);
            case "nearest": return nearest(a[0], a[1], a[2]);
            case "floors": sums(a); return floors(walkers.get(a[0])[1], q, a[1]);
            case "rests": sums(a); return rests(walkers.get(a[0])[1], a[1]);
            case "reciprocal": nobody(a[0]); return reciprocal(walkers.get(a[0])[1]);
            case "lots": return lots(a[0], a[1], a[2]);
            default: return answerOfLists(name, a);
        }
    }

    private long answerOfLists(String name, int[] a) {
        switch (name) {
            case "list": noList(a[0]); room(a[1] > 40); if (a[1] < 0) return -14; lists[a[0]] = new int[a[1]]; return 1;
            case "put": at(a[0], a[1]); lists[a[0]][a[1]] = a[2]; return 1;
            case "look": at(a[0], a[1]); return lists[a[0]][a[1]];
            case "lays": return lays(a[0], a[1], a[2]);
            case "judge": noList(a[0]); nobody(a[1]); missing(a[0]); return judge(lists[a[0]], walkers.get(a[1]));
            case "steps": return steps(a[0], a[1]);
            case "kinds": return kinds(a[0], a[1]);
            case "undo": return undo();
            case "image": imageQ = q; image = copy(walkers); return image.size();
            case "on": return on();
            case "count": return count(a[0]);
            default: throw new IllegalStateException(name);
        }
    }

    private static void refuse(boolean is, int number) {
        if (is) {
            throw new Refused(number);
        }
    }

    private void nobody(int walker) { refuse(walker < 0 || walker >= walkers.size(), -1); }
    private static void other(int what, int whats) { refuse(what < 0 || what >= whats, -2); }
    private static void state(boolean is) { refuse(is, -3); }
    private static void below(boolean is) { refuse(is, -4); }
    private static void room(boolean is) { refuse(is, -6); }
    private static void noList(int list) { refuse(list < 0 || list > 2, -1); }
    private void missing(int list) { refuse(lists[list] == null, -11); }
    private void sums(int[] a) { nobody(a[0]); below(a[1] < 0); room(a[1] > 4000); }

    private void at(int list, int i) {
        noList(list);
        missing(list);
        refuse(i < 0 || i >= lists[list].length, -13);
    }

    private void behind(int walker, int n, int what, int whats) {
        nobody(walker);
        below(n < 1);
        room(n > 200);
        other(what, whats);
    }

    private void nth(int walker, int n, int j, int least) {
        nobody(walker);
        below(n < 1 || j < least);
        room(n > 200);
    }

    private static List<int[]> copy(List<int[]> from) {
        List<int[]> to = new ArrayList<>();
        for (int[] each : from) {
            to.add(each.clone());
        }
        return to;
    }

    private long letter(int c) {
        below(c < 0);
        room(c > 255 || letters.length() == 72);
        letters.append((char) c);
        return letters.length();
    }

    /** The least i for which no row of forms begins as the first i + 1 letters do; -1. */
    private static int formFault(String text) {
        int at = 0;
        while (true) {
            String rest = text.substring(at);
            int best = 0;
            String whole = null;
            for (String form : FORMS) {
                int fits = 0;
                while (fits < form.length() && fits < rest.length() && fits(rest.charAt(fits), form.charAt(fits))) {
                    fits++;
                }
                best = Math.max(best, fits);
                whole = fits == form.length() ? form : whole;
            }
            if (whole == null) {
                return at + best;
            }
            at += whole.length();
            if (at == text.length()) {
                return -1;
            }
        }
    }

    private static boolean fits(char c, char form) {
        return form == 'd' ? "0123456789".indexOf(c) >= 0 : c == form;
    }

    private long walk() {
        String text = letters.toString();
        letters.setLength(0);
        int fault = formFault(text);
        if (fault >= 0) {
            return -1000 - fault;
        }
        int wasQ = q;
        List<int[]> were = copy(walkers);
        Matcher m = STATEMENT.matcher(text);
        int statements = 0;
        while (m.find()) {
            if (!statement(m)) {
                q = wasQ;
                walkers = were;
                return -2000 - m.start();
            }
            statements++;
        }
        undoable.clear();
        return statements;
    }

    private boolean statement(Matcher m) {
        if (m.group(1) != null) {
            int n = Integer.parseInt(m.group(1));
            if (n < 2 || n > 2000 || tooFar(n)) {
                return false;
            }
            q = n;
            return true;
        }
        if (m.group(2) != null) {
            int[] more = {Integer.parseInt(m.group(2)), Integer.parseInt(m.group(3)),
                Integer.parseInt(m.group(4)), Integer.parseInt(m.group(5))};
            return more[0] <= 5 && more[1] < q && more[2] < q && walkers.size() < 5 && walkers.add(more);
        }
        if (m.group(6) != null) {
            int walker = Integer.parseInt(m.group(6));
            int step = Integer.parseInt(m.group(7));
            if (walker >= walkers.size() || step >= q) {
                return false;
            }
            walkers.get(walker)[1] = step;
            return true;
        }
        int gone = Integer.parseInt(m.group(8));
        return gone < walkers.size() && walkers.remove(gone) != null;
    }

    private boolean tooFar(int n) {
        return walkers.stream().anyMatch(w -> w[1] >= n || w[2] >= n);
    }

    private long circle(int n) {
        below(n < 2);
        room(n > 2000);
        state(tooFar(n));
        int had = q;
        q = n;
        undoable.clear();
        return had;
    }

    private long walker(int[] a) {
        other(a[0], 6);
        below(a[1] < 0 || a[2] < 0 || a[3] < 0);
        room(a[1] >= q || a[2] >= q || a[3] > 9 || walkers.size() == 5);
        walkers.add(a.clone());
        undoable.clear();
        return walkers.size() - 1;
    }

    private long change(int walker, int what, int v) {
        nobody(walker);
        other(what, 4);
        below(v < 0);
        room(v > new int[] {5, q - 1, q - 1, 9}[what]);
        int was = walkers.get(walker)[what];
        undoable.add(new int[] {walker, what, was});
        if (undoable.size() > 16) {
            undoable.remove(0);
        }
        walkers.get(walker)[what] = v;
        return was;
    }

    private long drop() {
        state(walkers.isEmpty());
        walkers.remove(walkers.size() - 1);
        undoable.clear();
        return walkers.size();
    }

    private long of(int walker, int what) {
        nobody(walker);
        other(what, 5);
        if (what < 4) {
            return walkers.get(walker)[what];
        }
        for (int k = 1; k <= 2000; k++) {
            if (place(walker, k) == walkers.get(walker)[2]) {
                return k;
            }
        }
        return -9;
    }

    private long taken(int walker, int kind) {
        nobody(walker);
        other(kind, 6);
        int own = walkers.get(walker)[0];
        int[][] owners = {{0, 1, 2, 3, 4, 5}, {1, 5}, {2, 4}, {3}, {4}, {5}};
        return Arrays.stream(owners[kind]).anyMatch(k -> k == own) ? own : -16;
    }

    private int place(int walker, int k) {
        int[] w = walkers.get(walker);
        return place(w[0], w, k);
    }

    private int place(int kind, int[] w, int k) {
        BigInteger steps;
        switch (kind) {
            case 1: case 5: steps = BigInteger.valueOf(k).pow(2); break;
            case 2: steps = BigInteger.valueOf(-k); break;
            case 3: steps = BigInteger.valueOf(k + k / (w[3] + 1)); break;
            case 4: steps = BigInteger.valueOf(k % 2 == 0 ? -(k / 2) : (k + 1) / 2); break;
            default: steps = BigInteger.valueOf(k);
        }
        BigInteger more = BigInteger.valueOf(kind == 5 ? (long) w[3] * k : 0);
        return steps.multiply(BigInteger.valueOf(w[1])).add(BigInteger.valueOf(w[2])).add(more)
                .mod(BigInteger.valueOf(q)).intValue();
    }

    private TreeSet<Integer> markSet(int walker, int n) {
        TreeSet<Integer> marks = new TreeSet<>();
        for (int k = 0; k < n; k++) {
            marks.add(place(walker, k));
        }
        return marks;
    }

    private long marks(int walker, int n, int what) {
        TreeSet<Integer> marks = markSet(walker, n);
        return what == 0 ? marks.size() : what == 1 ? marks.first() : marks.last();
    }

    /** LENGTHS of the GAPS, from the least MARK on: found place by place. */
    private List<Integer> gaps(TreeSet<Integer> marks) {
        List<Integer> gaps = new ArrayList<>();
        for (int mark : marks) {
            int length = 1;
            while (!marks.contains((mark + length) % q)) {
                length++;
            }
            gaps.add(length);
        }
        return gaps;
    }

    private TreeMap<Integer, Integer> byLength(int walker, int n) {
        TreeMap<Integer, Integer> found = new TreeMap<>();
        for (int gap : gaps(markSet(walker, n))) {
            found.merge(gap, 1, Integer::sum);
        }
        return found;
    }

    private long lengths(int walker, int n, int j) {
        List<Integer> all = new ArrayList<>(byLength(walker, n).keySet());
        return j == -1 ? all.size() : j < all.size() ? all.get(j) : -9;
    }

    private long many(int walker, int n, int j) {
        List<Integer> all = new ArrayList<>(byLength(walker, n).values());
        return j < all.size() ? all.get(j) : -9;
    }

    private long seen(int walker, int n, int j) {
        List<Integer> all = gaps(markSet(walker, n)).stream().distinct().toList();
        return j < all.size() ? all.get(j) : -9;
    }

    private long split(int walker, int n, int what) {
        TreeSet<Integer> marks = markSet(walker, n);
        int next = place(walker, n);
        int far = 0;
        while (!marks.contains(Math.floorMod(next - far, q))) {
            far++;
        }
        return far == 0 ? -9 : what == 0 ? Math.floorMod(next - far, q) : far;
    }

    private long closest(int walker, int n, int what) {
        TreeSet<Integer> marks = markSet(walker, n);
        List<Integer> gaps = gaps(marks);
        int least = gaps.stream().min(Integer::compare).orElseThrow();
        return what == 0 ? least : new ArrayList<>(marks).get(gaps.indexOf(least));
    }

    private static long part(long above, long below, int part) {
        long common = BigInteger.valueOf(above).gcd(BigInteger.valueOf(below)).longValueExact();
        return (part == 0 ? above : below) / common;
    }

    private long off(int walker, int n, int part) {
        int[] m = new int[n];
        for (int k = 0; k < n; k++) {
            m[k] = place(walker, k);
        }
        Arrays.sort(m);
        List<Long> all = new ArrayList<>();
        for (int i = 0; i < n; i++) {
            all.add((long) (i + 1) * q - (long) m[i] * n);
            all.add((long) m[i] * n - (long) i * q);
        }
        return part(all.stream().max(Long::compare).orElseThrow(), (long) n * q, part);
    }

    private int far(int walker, int k) {
        int[] w = walkers.get(walker);
        int straight = Math.abs(place(walker, k) - w[2]);
        return Math.min(straight, q - straight);
    }

    private long nearer(int walker, int n, int j) {
        List<Integer> found = new ArrayList<>();
        for (int k = 1; k < n; k++) {
            boolean is = true;
            for (int ahead = 1; ahead < k; ahead++) {
                is &= far(walker, k) < far(walker, ahead);
            }
            if (is) {
                found.add(k);
            }
        }
        return j == -1 ? found.size() : j < found.size() ? found.get(j) : -9;
    }

    private long crowded(int walker, int n, int m, int what) {
        nobody(walker);
        below(n < 1 || m < 1);
        room(n > 200 || m > 9);
        other(what, 2);
        int best = 0;
        int most = -1;
        for (int c = 0; c < m; c++) {
            int found = 0;
            for (int k = 0; k < n; k++) {
                found += place(walker, k) % m == c ? 1 : 0;
            }
            if (found > most) {
                best = c;
                most = found;
            }
        }
        return what == 0 ? best : most;
    }

    private void two(int one, int other) {
        nobody(one);
        nobody(other);
        refuse(one == other, -1);
    }

    private long meeting(int one, int other, int what) {
        two(one, other);
        other(what, 2);
        for (int k = 0; k <= 2000; k++) {
            if (place(one, k) == place(other, k)) {
                return what == 0 ? k : place(one, k);
            }
        }
        return -9;
    }

    private long shared(int one, int other, int n, int what) {
        two(one, other);
        behind(one, n, what, 2);
        TreeSet<Integer> both = markSet(one, n);
        both.retainAll(markSet(other, n));
        return what == 0 ? both.size() : both.isEmpty() ? -9 : both.first();
    }

    private List<Integer> termList(int walker) {
        List<Integer> terms = new ArrayList<>();
        int above = walkers.get(walker)[1];
        int below = q;
        while (below != 0) {
            terms.add(above / below);
            int left = above % below;
            above = below;
            below = left;
        }
        return terms;
    }

    private long terms(int walker, int i) {
        List<Integer> all = termList(walker);
        return i == -1 ? all.size() : i < all.size() ? all.get(i) : -9;
    }

    /** From the innermost TERM outward, as the document writes the fraction. */
    private long convergent(int walker, int i, int part) {
        nobody(walker);
        below(i < 0);
        List<Integer> all = termList(walker);
        room(i >= all.size());
        other(part, 2);
        long above = all.get(i);
        long below = 1;
        for (int at = i - 1; at >= 0; at--) {
            long turned = above;
            above = all.get(at) * above + below;
            below = turned;
        }
        return part(above, below, part);
    }

    private long nearest(int walker, int b, int what) {
        nobody(walker);
        below(b < 1);
        room(b > 99);
        other(what, 2);
        long step = walkers.get(walker)[1];
        long[] best = null;
        for (int k = 1; k <= b; k++) {
            for (int h = 0; h <= k; h++) {
                if (part(h, k, 1) != k) {
                    continue;
                }
                long differs = Math.abs(h * (long) q - k * step);
                if (best == null || differs * best[2] < best[0] * k) {
                    best = new long[] {differs, h, k};
                }
            }
        }
        return best == null ? 0 : best[what + 1];
    }

    private static long floors(long step, long by, int n) {
        long sum = 0;
        for (long k = 0; k < n; k++) {
            sum += Math.floorDiv(k * step, by);
        }
        return sum;
    }

    private long rests(long step, int n) {
        return step * n * (n - 1L) / 2 - q * floors(step, q, n);
    }

    private long reciprocal(int step) {
        return step == 0 ? 0 : floors(step, q, q) + floors(q, step, step);
    }

    private long lots(int n, int seed, int what) {
        below(n < 1);
        room(n > 50);
        other(what, 2);
        state(walkers.isEmpty());
        TreeSet<Integer> unlike = new TreeSet<>();
        long sum = 0;
        BigInteger z = BigInteger.valueOf(seed);
        for (int i = 0; i < n; i++) {
            z = next(z);
            int walker = draw(z, walkers.size());
            z = next(z);
            int place = place(walker, draw(z, 200));
            unlike.add(place);
            sum += place;
        }
        return what == 0 ? unlike.size() : sum;
    }

    private static BigInteger next(BigInteger z) {
        return z.multiply(BigInteger.valueOf(1664525)).add(BigInteger.valueOf(1013904223));
    }

    private static int draw(BigInteger z, int below) {
        return z.mod(BigInteger.ONE.shiftLeft(31)).shiftRight(8).mod(BigInteger.valueOf(below)).intValue();
    }

    private long lays(int list, int i, int walker) {
        noList(list);
        nobody(walker);
        at(list, i);
        int laid = 0;
        while (i + laid < lists[list].length) {
            lists[list][i + laid] = place(walker, laid);
            laid++;
        }
        return laid;
    }

    private long judge(int[] list, int[] w) {
        for (int i = 0; i < list.length; i++) {
            if (place(w[0], w, i) != list[i]) {
                return i;
            }
        }
        return -9;
    }

    private void tells(int list) {
        missing(list);
        state(lists[list].length < 2 || Arrays.stream(lists[list]).anyMatch(v -> v < 0 || v >= q));
    }

    private long steps(int list, int what) {
        noList(list);
        other(what, 2);
        tells(list);
        int found = 0;
        int least = -9;
        for (int step = q - 1; step >= 0; step--) {
            if (judge(lists[list], new int[] {0, step, lists[list][0], 0}) == -9) {
                found++;
                least = step;
            }
        }
        return what == 0 ? found : least;
    }

    private long kinds(int list, int walker) {
        noList(list);
        nobody(walker);
        tells(list);
        int bits = 0;
        for (int kind = 0; kind < 6; kind++) {
            int[] as = walkers.get(walker).clone();
            as[0] = kind;
            bits += judge(lists[list], as) == -9 ? 1 << kind : 0;
        }
        return bits;
    }

    private long undo() {
        state(undoable.isEmpty());
        int[] last = undoable.remove(undoable.size() - 1);
        walkers.get(last[0])[last[1]] = last[2];
        return undoable.size();
    }

    private long on() {
        state(image == null);
        q = imageQ;
        walkers = copy(image);
        undoable.clear();
        return walkers.size();
    }

    private long count(int what) {
        switch (what) {
            case 0: return walkers.size();
            case 1: return q;
            case 2: return letters.length();
            case 3: return undoable.size();
            default: return what >= 11 && what <= 16 ? refused[what - 10] : -9;
        }
    }

    int circleSize() {
        return q;
    }

    int walkerCount() {
        return walkers.size();
    }
}
