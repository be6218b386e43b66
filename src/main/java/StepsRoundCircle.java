import java.util.Arrays;

/** Walkers that leave marks on the places of a circle, and what can be told of these marks. */
public final class StepsRoundCircle {
    private static final int NOBODY = -1;
    private static final int OTHER = -2;
    private static final int STATE = -3;
    private static final int BELOW = -4;
    private static final int ROOM = -6;
    private static final int NONE = -9;
    private static final int LIST_MISSING = -11;
    private static final int NO_SUCH_PLACE = -13;
    private static final int SIZE_BELOW = -14;
    private static final int OTHER_KIND = -16;
    private static final int FINE = 0;
    private static final long REFUSED_LONG = 4000000000000000000L;

    private static final int REFUSALS = 6;
    private static final int LEAST_PLACES = 2;
    private static final int MOST_PLACES = 2000;
    private static final int FIRST_PLACES = 100;
    private static final int MOST_WALKERS = 5;
    private static final int MOST_MARKS = 200;
    private static final int MOST_K = 4000;
    private static final int MOST_SEARCHED = 2000;
    private static final int MOST_MODULUS = 9;
    private static final int MOST_BELOW_LINE = 99;
    private static final int MOST_LOTS = 50;
    private static final int MOST_LETTERS = 72;
    private static final int MOST_LETTER = 255;
    private static final int LISTS = 3;
    private static final int MOST_IN_LIST = 40;
    private static final int MOST_UNDONE = 16;
    /** Far above the turns that Euclid's way takes with any two longs. */
    private static final int MOST_TURNS = 200;

    private static final int KIND = 0;
    private static final int STEP = 1;
    private static final int START = 2;
    private static final int FIGURE = 3;
    private static final int VALUES = 4;
    private static final int RETURN = 4;

    private static final int SQUARE = 1;
    private static final int MIRRORED = 2;
    private static final int SKIPPING = 3;
    private static final int PAIRED = 4;
    private static final int TURNED = 5;
    private static final int KINDS = 6;
    private static final int MOST_FIGURE = 9;
    /** By KIND, the one that it stands under; -1 where there is none. */
    private static final int[] UNDER = {-1, 0, 0, 0, MIRRORED, SQUARE};

    private static final int WITHOUT_SIGN = 0x7fffffff;

    private static final int FORM_FAULT = -1000;
    private static final int STATEMENT_FAULT = -2000;

    private final Ring ring = new Ring();
    /** What a WALK is tried on, so that one with a FAULT leaves nothing behind. */
    private final Ring trial = new Ring();
    private final Ring imaged = new Ring();
    private boolean hasImage = false;
    private final Text text = new Text();
    private final Changes changes = new Changes();
    private final Row[] rows = new Row[LISTS];
    private final int[] refusals = new int[REFUSALS];
    /** Rows that calls use again and again, so that none makes its own. */
    private final Sorted places = new Sorted();
    private final Sorted others = new Sorted();
    private final int[] classes = new int[MOST_MODULUS];

    public StepsRoundCircle() {
        for (int i = 0; i < rows.length; i++) {
            rows[i] = new Row();
        }
    }

    // ---- the circle, walkers

    public int letter(int c) {
        if (c < 0) {
            return refuse(BELOW);
        }
        if (c > MOST_LETTER || text.isFull()) {
            return refuse(ROOM);
        }
        text.add(c);
        return text.size;
    }

    public int walk() {
        int answer = readWalk();
        text.clear();
        return answer;
    }

    public int circle(int n) {
        if (n < LEAST_PLACES) {
            return refuse(BELOW);
        }
        if (n > MOST_PLACES) {
            return refuse(ROOM);
        }
        if (!ring.allBelow(n)) {
            return refuse(STATE);
        }
        int had = ring.size;
        ring.size = n;
        changes.clear();
        return had;
    }

    public int walker(int kind, int step, int start, int figure) {
        if (!isKind(kind)) {
            return refuse(OTHER);
        }
        if (step < 0 || start < 0 || figure < 0) {
            return refuse(BELOW);
        }
        if (!ring.hasRoomFor(kind, step, start, figure)) {
            return refuse(ROOM);
        }
        ring.add(kind, step, start, figure);
        changes.clear();
        return ring.walkers - 1;
    }

    public int change(int walker, int what, int v) {
        if (!ring.has(walker)) {
            return refuse(NOBODY);
        }
        if (!isBelow(what, VALUES)) {
            return refuse(OTHER);
        }
        if (v < 0) {
            return refuse(BELOW);
        }
        if (v > ring.greatest(what)) {
            return refuse(ROOM);
        }
        int was = ring.value(walker, what);
        changes.keep(walker, what, was);
        ring.setValue(walker, what, v);
        return was;
    }

    public int drop() {
        if (ring.walkers == 0) {
            return refuse(STATE);
        }
        ring.remove(ring.walkers - 1);
        changes.clear();
        return ring.walkers;
    }

    public int of(int walker, int what) {
        if (!ring.has(walker)) {
            return refuse(NOBODY);
        }
        if (!isBelow(what, VALUES + 1)) {
            return refuse(OTHER);
        }
        return what == RETURN ? returnOf(walker) : ring.value(walker, what);
    }

    public int taken(int walker, int kind) {
        if (!ring.has(walker)) {
            return refuse(NOBODY);
        }
        if (!isKind(kind)) {
            return refuse(OTHER);
        }
        int own = ring.value(walker, KIND);
        return isOfKind(own, kind) ? own : OTHER_KIND;
    }

    public int place(int walker, int k) {
        int wrong = refusalOfNumber(walker, k, 0, MOST_K);
        if (wrong != FINE) {
            return refuse(wrong);
        }
        return ring.placeOf(walker, k);
    }

    // ---- gaps

    public int marks(int walker, int n, int what) {
        int wrong = refusalBehind(walker, n, what, 3);
        if (wrong != FINE) {
            return refuse(wrong);
        }
        takeMarks(places, walker, n);
        switch (what) {
            case 0:
                return places.size;
            case 1:
                return places.get(0);
            default:
                return places.get(places.size - 1);
        }
    }

    public int lengths(int walker, int n, int j) {
        int wrong = refusalOfNth(walker, n, j, -1);
        if (wrong != FINE) {
            return refuse(wrong);
        }
        takeLengths(walker, n);
        if (j == -1) {
            return others.size;
        }
        return j < others.size ? others.get(j) : NONE;
    }

    public int many(int walker, int n, int j) {
        int wrong = refusalOfNth(walker, n, j, 0);
        if (wrong != FINE) {
            return refuse(wrong);
        }
        takeLengths(walker, n);
        return j < others.size ? gapsOfLength(others.get(j)) : NONE;
    }

    public int seen(int walker, int n, int j) {
        int wrong = refusalOfNth(walker, n, j, 0);
        if (wrong != FINE) {
            return refuse(wrong);
        }
        takeMarks(places, walker, n);
        others.clear();
        for (int i = 0; i < places.size; i++) {
            int length = gapBehind(i);
            if (!others.has(length) && others.size == j) {
                return length;
            }
            others.addOnce(length);
        }
        return NONE;
    }

    public int split(int walker, int n, int what) {
        int wrong = refusalBehind(walker, n, what, 2);
        if (wrong != FINE) {
            return refuse(wrong);
        }
        takeMarks(places, walker, n);
        int next = ring.placeOf(walker, n);
        if (places.has(next)) {
            return NONE;
        }
        int less = places.howManyBelow(next);
        int mark = places.get(less > 0 ? less - 1 : places.size - 1);
        return what == 0 ? mark : ring.around(next - mark);
    }

    public int closest(int walker, int n, int what) {
        int wrong = refusalBehind(walker, n, what, 2);
        if (wrong != FINE) {
            return refuse(wrong);
        }
        takeMarks(places, walker, n);
        int least = 0;
        for (int i = 1; i < places.size; i++) {
            if (gapBehind(i) < gapBehind(least)) {
                least = i;
            }
        }
        return what == 0 ? gapBehind(least) : places.get(least);
    }

    public long off(int walker, int n, int part) {
        int wrong = refusalBehind(walker, n, part, 2);
        if (wrong != FINE) {
            return refuseLong(wrong);
        }
        takePlaces(walker, n);
        long greatest = 0;
        for (int i = 0; i < places.size; i++) {
            long mark = (long) places.get(i) * n;
            long behind = (long) (i + 1) * ring.size - mark;
            long ahead = mark - (long) i * ring.size;
            greatest = Math.max(greatest, Math.max(behind, ahead));
        }
        return partOf(greatest, (long) n * ring.size, part);
    }

    public int nearer(int walker, int n, int j) {
        int wrong = refusalOfNth(walker, n, j, -1);
        if (wrong != FINE) {
            return refuse(wrong);
        }
        int found = 0;
        int least = ring.size;
        for (int k = 1; k < n; k++) {
            int far = farFromStart(walker, k);
            if (far < least) {
                if (found == j) {
                    return k;
                }
                least = far;
                found++;
            }
        }
        return j == -1 ? found : NONE;
    }

    public int crowded(int walker, int n, int m, int what) {
        int wrong = refusalOfCrowded(walker, n, m, what);
        if (wrong != FINE) {
            return refuse(wrong);
        }
        Arrays.fill(classes, 0);
        for (int k = 0; k < n; k++) {
            int alike = (int) rest(ring.placeOf(walker, k), m);
            if (isBelow(alike, classes.length)) {
                classes[alike]++;
            }
        }
        int most = 0;
        for (int i = 1; i < m && i < classes.length; i++) {
            if (classes[i] > classes[most]) {
                most = i;
            }
        }
        return what == 0 ? most : classes[most];
    }

    public int meeting(int one, int other, int what) {
        if (!areTwo(one, other)) {
            return refuse(NOBODY);
        }
        if (!isBelow(what, 2)) {
            return refuse(OTHER);
        }
        for (int k = 0; k <= MOST_SEARCHED; k++) {
            int met = ring.placeOf(one, k);
            if (met == ring.placeOf(other, k)) {
                return what == 0 ? k : met;
            }
        }
        return NONE;
    }

    public int shared(int one, int other, int n, int what) {
        if (!areTwo(one, other)) {
            return refuse(NOBODY);
        }
        int wrong = refusalBehind(one, n, what, 2);
        if (wrong != FINE) {
            return refuse(wrong);
        }
        takeMarks(places, one, n);
        takeMarks(others, other, n);
        int both = 0;
        int least = NONE;
        for (int i = places.size - 1; i >= 0; i--) {
            if (others.has(places.get(i))) {
                both++;
                least = places.get(i);
            }
        }
        return what == 0 ? both : least;
    }

    public long odds(int walker, int n, int part) {
        int wrong = refusalBehind(walker, n, part, 2);
        if (wrong != FINE) {
            return refuseLong(wrong);
        }
        takeMarks(places, walker, n);
        return partOf(places.size, ring.size, part);
    }

    // ---- fractions, sums

    public int terms(int walker, int i) {
        if (!ring.has(walker)) {
            return refuse(NOBODY);
        }
        if (i < -1) {
            return refuse(BELOW);
        }
        int step = ring.value(walker, STEP);
        return i == -1 ? howManyTerms(step, ring.size) : termAt(step, ring.size, i);
    }

    public long convergent(int walker, int i, int part) {
        if (!ring.has(walker)) {
            return refuseLong(NOBODY);
        }
        if (i < 0) {
            return refuseLong(BELOW);
        }
        int step = ring.value(walker, STEP);
        if (i >= howManyTerms(step, ring.size)) {
            return refuseLong(ROOM);
        }
        if (!isBelow(part, 2)) {
            return refuseLong(OTHER);
        }
        return part == 0 ? convergentPart(step, i, 0, 1) : convergentPart(step, i, 1, 0);
    }

    public int nearest(int walker, int b, int what) {
        int wrong = refusalOfNumber(walker, b, 1, MOST_BELOW_LINE);
        if (wrong != FINE) {
            return refuse(wrong);
        }
        if (!isBelow(what, 2)) {
            return refuse(OTHER);
        }
        int step = ring.value(walker, STEP);
        int bestAbove = 0;
        int bestBelow = 1;
        for (int k = 1; k <= b; k++) {
            int cut = (int) quotient((long) k * step, ring.size);
            // Only a strictly nearer one replaces: so the least k, then the least h stays.
            for (int h = cut; h <= cut + 1; h++) {
                if (apart(h, k, step) * bestBelow < apart(bestAbove, bestBelow, step) * k) {
                    bestAbove = h;
                    bestBelow = k;
                }
            }
        }
        return what == 0 ? bestAbove : bestBelow;
    }

    public long floors(int walker, int n) {
        int wrong = refusalOfNumber(walker, n, 0, MOST_K);
        if (wrong != FINE) {
            return refuseLong(wrong);
        }
        return sumOfFloors(ring.value(walker, STEP), ring.size, n);
    }

    public long rests(int walker, int n) {
        int wrong = refusalOfNumber(walker, n, 0, MOST_K);
        if (wrong != FINE) {
            return refuseLong(wrong);
        }
        long step = ring.value(walker, STEP);
        long sum = 0;
        for (int k = 0; k < n; k++) {
            sum += rest(k * step, ring.size);
        }
        return sum;
    }

    public long reciprocal(int walker) {
        if (!ring.has(walker)) {
            return refuseLong(NOBODY);
        }
        int step = ring.value(walker, STEP);
        return sumOfFloors(step, ring.size, ring.size) + sumOfFloors(ring.size, step, step);
    }

    public int lots(int n, int z, int what) {
        if (n < 1) {
            return refuse(BELOW);
        }
        if (n > MOST_LOTS) {
            return refuse(ROOM);
        }
        if (!isBelow(what, 2)) {
            return refuse(OTHER);
        }
        if (ring.walkers == 0) {
            return refuse(STATE);
        }
        others.clear();
        int seed = z;
        int sum = 0;
        for (int i = 0; i < n; i++) {
            seed = nextSeed(seed);
            int walker = drawn(seed, ring.walkers);
            seed = nextSeed(seed);
            int drawnPlace = ring.placeOf(walker, drawn(seed, MOST_MARKS));
            others.addOnce(drawnPlace);
            sum += drawnPlace;
        }
        return what == 0 ? others.size : sum;
    }

    // ---- lists of numbers

    public int list(int list, int n) {
        Row row = rowOf(list);
        if (row == null) {
            return refuse(NOBODY);
        }
        if (n > MOST_IN_LIST) {
            return refuse(ROOM);
        }
        if (n < 0) {
            return SIZE_BELOW;
        }
        row.begin(n);
        return 1;
    }

    public int put(int list, int i, int v) {
        Row row = rowOf(list);
        if (row == null) {
            return refuse(NOBODY);
        }
        if (row.isMissing()) {
            return LIST_MISSING;
        }
        if (!row.hasPlace(i)) {
            return NO_SUCH_PLACE;
        }
        row.set(i, v);
        return 1;
    }

    public long look(int list, int i) {
        Row row = rowOf(list);
        if (row == null) {
            return refuseLong(NOBODY);
        }
        if (row.isMissing()) {
            return REFUSED_LONG - LIST_MISSING;
        }
        if (!row.hasPlace(i)) {
            return REFUSED_LONG - NO_SUCH_PLACE;
        }
        return row.get(i);
    }

    public int lays(int list, int i, int walker) {
        Row row = rowOf(list);
        if (row == null || !ring.has(walker)) {
            return refuse(NOBODY);
        }
        if (row.isMissing()) {
            return LIST_MISSING;
        }
        if (!row.hasPlace(i)) {
            return NO_SUCH_PLACE;
        }
        for (int at = i; at < row.size; at++) {
            row.set(at, ring.placeOf(walker, at - i));
        }
        return row.size - i;
    }

    public int judge(int list, int walker) {
        Row row = rowOf(list);
        if (row == null || !ring.has(walker)) {
            return refuse(NOBODY);
        }
        if (row.isMissing()) {
            return LIST_MISSING;
        }
        return firstOtherwise(row, walker, ring.value(walker, KIND));
    }

    public int steps(int list, int what) {
        Row row = rowOf(list);
        if (row == null) {
            return refuse(NOBODY);
        }
        if (!isBelow(what, 2)) {
            return refuse(OTHER);
        }
        if (row.isMissing()) {
            return LIST_MISSING;
        }
        if (!tellsPlaces(row)) {
            return refuse(STATE);
        }
        int step = stepBy(row);
        if (what == 0) {
            return step == NONE ? 0 : 1;
        }
        return step;
    }

    public int kinds(int list, int walker) {
        Row row = rowOf(list);
        if (row == null || !ring.has(walker)) {
            return refuse(NOBODY);
        }
        if (row.isMissing()) {
            return LIST_MISSING;
        }
        if (!tellsPlaces(row)) {
            return refuse(STATE);
        }
        int bits = 0;
        for (int kind = 0; kind < KINDS; kind++) {
            if (firstOtherwise(row, walker, kind) == NONE) {
                bits |= 1 << kind;
            }
        }
        return bits;
    }

    // ---- the image

    public int undo() {
        if (changes.size == 0) {
            return refuse(STATE);
        }
        int last = changes.size - 1;
        ring.setValue(changes.walkerAt(last), changes.whatAt(last), changes.wasAt(last));
        changes.forgetLast();
        return changes.size;
    }

    public int image() {
        imaged.copyFrom(ring);
        hasImage = true;
        return imaged.walkers;
    }

    public int on() {
        if (!hasImage) {
            return refuse(STATE);
        }
        ring.copyFrom(imaged);
        changes.clear();
        return ring.walkers;
    }

    public int count(int what) {
        switch (what) {
            case 0:
                return ring.walkers;
            case 1:
                return ring.size;
            case 2:
                return text.size;
            case 3:
                return changes.size;
            default:
                return isBelow(what - 11, refusals.length) ? refusals[what - 11] : NONE;
        }
    }

    // ---- refusals

    private int refuse(int number) {
        int at = -number - 1;
        if (isBelow(at, refusals.length)) {
            refusals[at]++;
        }
        return number;
    }

    private long refuseLong(int number) {
        return REFUSED_LONG - refuse(number);
    }

    private int refusalOfNumber(int walker, int n, int least, int greatest) {
        if (!ring.has(walker)) {
            return NOBODY;
        }
        if (n < least) {
            return BELOW;
        }
        return n > greatest ? ROOM : FINE;
    }

    private int refusalBehind(int walker, int n, int what, int whats) {
        int wrong = refusalOfNumber(walker, n, 1, MOST_MARKS);
        if (wrong != FINE) {
            return wrong;
        }
        return isBelow(what, whats) ? FINE : OTHER;
    }

    private int refusalOfNth(int walker, int n, int j, int leastJ) {
        if (!ring.has(walker)) {
            return NOBODY;
        }
        if (n < 1 || j < leastJ) {
            return BELOW;
        }
        return n > MOST_MARKS ? ROOM : FINE;
    }

    private int refusalOfCrowded(int walker, int n, int m, int what) {
        if (!ring.has(walker)) {
            return NOBODY;
        }
        if (n < 1 || m < 1) {
            return BELOW;
        }
        if (n > MOST_MARKS || m > MOST_MODULUS) {
            return ROOM;
        }
        return isBelow(what, 2) ? FINE : OTHER;
    }

    private boolean areTwo(int one, int other) {
        return one != other && ring.has(one) && ring.has(other);
    }

    private static boolean isBelow(int number, int bound) {
        return number >= 0 && number < bound;
    }

    private static boolean isKind(int kind) {
        return isBelow(kind, KINDS);
    }

    // ---- walks

    private int readWalk() {
        int lacking = text.formFault();
        if (lacking != NONE) {
            return FORM_FAULT - lacking;
        }
        trial.copyFrom(ring);
        int statements = 0;
        int at = 0;
        while (statements < MOST_LETTERS && at < text.size) {
            if (!follow(at)) {
                return STATEMENT_FAULT - at;
            }
            at += text.statementLength(at);
            statements++;
        }
        ring.copyFrom(trial);
        changes.clear();
        return statements;
    }

    /** Whether the STATEMENT can be; then it has changed the trial. */
    private boolean follow(int at) {
        switch (text.get(at)) {
            case 'c':
                return followCircle(text.number(at + 1, 4));
            case 'w':
                return followWalker(at);
            case 's':
                return followStep(text.number(at + 1, 1), text.number(at + 2, 4));
            default:
                return followGone(text.number(at + 1, 1));
        }
    }

    private boolean followCircle(int n) {
        if (n < LEAST_PLACES || n > MOST_PLACES || !trial.allBelow(n)) {
            return false;
        }
        trial.size = n;
        return true;
    }

    private boolean followWalker(int at) {
        int kind = text.number(at + 1, 1);
        int step = text.number(at + 2, 4);
        int start = text.number(at + 6, 4);
        int figure = text.number(at + 10, 1);
        if (!trial.hasRoomFor(kind, step, start, figure)) {
            return false;
        }
        trial.add(kind, step, start, figure);
        return true;
    }

    private boolean followStep(int walker, int step) {
        if (!trial.has(walker) || step > trial.greatest(STEP)) {
            return false;
        }
        trial.setValue(walker, STEP, step);
        return true;
    }

    private boolean followGone(int walker) {
        if (!trial.has(walker)) {
            return false;
        }
        trial.remove(walker);
        return true;
    }

    // ---- places and gaps

    private static boolean isOfKind(int own, int kind) {
        int at = own;
        for (int i = 0; i < KINDS && isBelow(at, UNDER.length); i++) {
            if (at == kind) {
                return true;
            }
            at = UNDER[at];
        }
        return false;
    }

    private int returnOf(int walker) {
        int start = ring.value(walker, START);
        for (int k = 1; k <= MOST_SEARCHED; k++) {
            if (ring.placeOf(walker, k) == start) {
                return k;
            }
        }
        return NONE;
    }

    private int farFromStart(int walker, int k) {
        int oneWay = ring.around(ring.placeOf(walker, k) - ring.value(walker, START));
        return Math.min(oneWay, ring.size - oneWay);
    }

    private void takeMarks(Sorted into, int walker, int n) {
        into.clear();
        for (int k = 0; k < n; k++) {
            into.addOnce(ring.placeOf(walker, k));
        }
    }

    private void takePlaces(int walker, int n) {
        places.clear();
        for (int k = 0; k < n; k++) {
            places.add(ring.placeOf(walker, k));
        }
    }

    /** The LENGTHS come into others, the MARKS into places. */
    private void takeLengths(int walker, int n) {
        takeMarks(places, walker, n);
        others.clear();
        for (int i = 0; i < places.size; i++) {
            others.addOnce(gapBehind(i));
        }
    }

    /** The LENGTH of the GAP that goes from the i-th of the MARKS in places. */
    private int gapBehind(int i) {
        if (i + 1 < places.size) {
            return places.get(i + 1) - places.get(i);
        }
        return places.get(0) + ring.size - places.get(i);
    }

    private int gapsOfLength(int length) {
        int found = 0;
        for (int i = 0; i < places.size; i++) {
            if (gapBehind(i) == length) {
                found++;
            }
        }
        return found;
    }

    // ---- fractions and draws

    private static long quotient(long number, long divisor) {
        return divisor == 0 ? 0 : number / divisor;
    }

    private static long rest(long number, long divisor) {
        return divisor == 0 ? 0 : number % divisor;
    }

    private static long greatestCommon(long one, long other) {
        long greater = one;
        long less = other;
        for (int i = 0; i < MOST_TURNS && less != 0; i++) {
            long left = greater % less;
            greater = less;
            less = left;
        }
        return greater;
    }

    private static long partOf(long above, long below, int part) {
        long common = greatestCommon(above, below);
        return quotient(part == 0 ? above : below, common);
    }

    private static int termAt(int above, int below, int i) {
        int divided = above;
        int by = below;
        for (int at = 0; at < MOST_TURNS && by != 0; at++) {
            if (at == i) {
                return divided / by;
            }
            int left = divided % by;
            divided = by;
            by = left;
        }
        return NONE;
    }

    private static int howManyTerms(int above, int below) {
        int found = 0;
        while (found < MOST_TURNS && termAt(above, below, found) != NONE) {
            found++;
        }
        return found;
    }

    /** The part of CONVERGENT i whose two forerunners, ahead of TERM 0, are these. */
    private long convergentPart(int step, int i, long beforeLast, long last) {
        long older = beforeLast;
        long newer = last;
        for (int at = 0; at <= i && at < MOST_TURNS; at++) {
            long next = termAt(step, ring.size, at) * newer + older;
            older = newer;
            newer = next;
        }
        return newer;
    }

    /** How far above / below is from step / Q, times below and Q. */
    private long apart(int above, int below, int step) {
        return Math.abs((long) above * ring.size - (long) below * step);
    }

    private static long sumOfFloors(long step, long by, int n) {
        long sum = 0;
        for (int k = 0; k < n; k++) {
            sum += quotient(k * step, by);
        }
        return sum;
    }

    private static int nextSeed(int seed) {
        return seed * 1664525 + 1013904223;
    }

    private static int drawn(int seed, int below) {
        return (int) rest((seed & WITHOUT_SIGN) / 256, below);
    }

    // ---- lists

    private Row rowOf(int list) {
        return isBelow(list, rows.length) ? rows[list] : null;
    }

    private boolean tellsPlaces(Row row) {
        for (int i = 0; i < row.size; i++) {
            if (!isBelow(row.get(i), ring.size)) {
                return false;
            }
        }
        return row.size >= 2;
    }

    private int firstOtherwise(Row row, int walker, int kind) {
        for (int i = 0; i < row.size; i++) {
            if (row.get(i) != ring.placeBy(kind, walker, i)) {
                return i;
            }
        }
        return NONE;
    }

    /** The first two numbers leave just one STEP; NONE if the others do not go with it. */
    private int stepBy(Row row) {
        int step = ring.around(row.get(1) - row.get(0));
        for (int i = 2; i < row.size; i++) {
            if (row.get(i) != ring.around(row.get(i - 1) + step)) {
                return NONE;
            }
        }
        return step;
    }

    /** THE CIRCLE and its WALKERS. */
    private static final class Ring {
        int size = FIRST_PLACES;
        int walkers = 0;
        private final int[] values = new int[MOST_WALKERS * VALUES];

        boolean has(int walker) {
            return isBelow(walker, walkers);
        }

        int value(int walker, int what) {
            int at = walker * VALUES + what;
            return isBelow(at, values.length) ? values[at] : 0;
        }

        void setValue(int walker, int what, int v) {
            int at = walker * VALUES + what;
            if (isBelow(at, values.length)) {
                values[at] = v;
            }
        }

        int greatest(int what) {
            switch (what) {
                case KIND:
                    return KINDS - 1;
                case FIGURE:
                    return MOST_FIGURE;
                default:
                    return size - 1;
            }
        }

        /** Whether each STEP and START is less than n. */
        boolean allBelow(int n) {
            for (int i = 0; i < walkers; i++) {
                if (value(i, STEP) >= n || value(i, START) >= n) {
                    return false;
                }
            }
            return true;
        }

        boolean hasRoomFor(int kind, int step, int start, int figure) {
            return walkers < MOST_WALKERS && kind <= greatest(KIND) && step <= greatest(STEP)
                    && start <= greatest(START) && figure <= greatest(FIGURE);
        }

        void add(int kind, int step, int start, int figure) {
            setValue(walkers, KIND, kind);
            setValue(walkers, STEP, step);
            setValue(walkers, START, start);
            setValue(walkers, FIGURE, figure);
            walkers++;
        }

        void remove(int walker) {
            for (int i = walker; i < walkers - 1; i++) {
                for (int what = 0; what < VALUES; what++) {
                    setValue(i, what, value(i + 1, what));
                }
            }
            walkers--;
        }

        void copyFrom(Ring other) {
            size = other.size;
            walkers = other.walkers;
            for (int i = 0; i < values.length && i < other.values.length; i++) {
                values[i] = other.values[i];
            }
        }

        int around(long number) {
            int left = (int) rest(number, size);
            return left < 0 ? left + size : left;
        }

        int placeOf(int walker, int k) {
            return placeBy(value(walker, KIND), walker, k);
        }

        /** The k-th PLACE that the WALKER would have if it were of this KIND. */
        int placeBy(int kind, int walker, long k) {
            long step = value(walker, STEP);
            long start = value(walker, START);
            long figure = value(walker, FIGURE);
            switch (kind) {
                case SQUARE:
                    return around(start + k * k * step);
                case MIRRORED:
                    return around(start - k * step);
                case SKIPPING:
                    return around(start + (k + quotient(k, figure + 1)) * step);
                case PAIRED:
                    return around(k % 2 == 0 ? start - k / 2 * step : start + (k + 1) / 2 * step);
                case TURNED:
                    return around(start + k * k * step + figure * k);
                default:
                    return around(start + k * step);
            }
        }
    }

    /** Numbers in order, the least first. */
    private static final class Sorted {
        int size = 0;
        private final int[] numbers = new int[MOST_MARKS];

        void clear() {
            size = 0;
        }

        int get(int i) {
            return i >= 0 && i < size && i < numbers.length ? numbers[i] : 0;
        }

        int howManyBelow(int number) {
            int low = 0;
            int high = size;
            for (int i = 0; i < MOST_MARKS && low < high; i++) {
                int middle = (low + high) / 2;
                if (get(middle) < number) {
                    low = middle + 1;
                } else {
                    high = middle;
                }
            }
            return low;
        }

        boolean has(int number) {
            int at = howManyBelow(number);
            return at < size && get(at) == number;
        }

        void add(int number) {
            int at = howManyBelow(number);
            if (size < numbers.length && at <= size) {
                System.arraycopy(numbers, at, numbers, at + 1, size - at);
                numbers[at] = number;
                size++;
            }
        }

        void addOnce(int number) {
            if (!has(number)) {
                add(number);
            }
        }
    }

    /** The letters of a WALK. Each STATEMENT is a letter, digits, and ";". */
    private static final class Text {
        int size = 0;
        private final int[] letters = new int[MOST_LETTERS];

        boolean isFull() {
            return size >= letters.length;
        }

        void add(int c) {
            if (isBelow(size, letters.length)) {
                letters[size] = c;
                size++;
            }
        }

        void clear() {
            size = 0;
        }

        /** -1 behind the last letter. */
        int get(int i) {
            return i < size && isBelow(i, letters.length) ? letters[i] : -1;
        }

        private static int digitsBehind(int letter) {
            switch (letter) {
                case 'c':
                    return 4;
                case 'w':
                    return 10;
                case 's':
                    return 5;
                case 'x':
                    return 1;
                default:
                    return -1;
            }
        }

        int statementLength(int at) {
            return digitsBehind(get(at)) + 2;
        }

        /** The place of the first letter with which no WALK goes on, or NONE. */
        int formFault() {
            int at = 0;
            for (int i = 0; i < MOST_LETTERS; i++) {
                int fault = statementFault(at);
                if (fault != NONE) {
                    return fault;
                }
                at += statementLength(at);
                if (at >= size) {
                    return NONE;
                }
            }
            return NONE;
        }

        private int statementFault(int from) {
            int digits = digitsBehind(get(from));
            if (digits < 0) {
                return from;
            }
            for (int i = from + 1; i <= from + digits; i++) {
                if (get(i) < '0' || get(i) > '9') {
                    return i;
                }
            }
            int end = from + digits + 1;
            return get(end) == ';' ? NONE : end;
        }

        int number(int from, int digits) {
            int told = 0;
            for (int i = from; i < from + digits; i++) {
                told = told * 10 + get(i) - '0';
            }
            return told;
        }
    }

    /** What change() made, the latest last; beyond its room the oldest is forgotten. */
    private static final class Changes {
        private static final int EACH = 3;
        int size = 0;
        private final int[] kept = new int[MOST_UNDONE * EACH];

        void clear() {
            size = 0;
        }

        void keep(int walker, int what, int was) {
            if (size >= MOST_UNDONE) {
                System.arraycopy(kept, EACH, kept, 0, kept.length - EACH);
                size = MOST_UNDONE - 1;
            }
            setKept(size * EACH, walker);
            setKept(size * EACH + 1, what);
            setKept(size * EACH + 2, was);
            size++;
        }

        void forgetLast() {
            if (size > 0) {
                size--;
            }
        }

        int walkerAt(int i) {
            return keptAt(i * EACH);
        }

        int whatAt(int i) {
            return keptAt(i * EACH + 1);
        }

        int wasAt(int i) {
            return keptAt(i * EACH + 2);
        }

        private void setKept(int at, int v) {
            if (isBelow(at, kept.length)) {
                kept[at] = v;
            }
        }

        private int keptAt(int at) {
            return isBelow(at, kept.length) ? kept[at] : 0;
        }
    }

    /** A LIST. */
    private static final class Row {
        private static final int MISSING = -1;
        int size = MISSING;
        private final int[] numbers = new int[MOST_IN_LIST];

        boolean isMissing() {
            return size == MISSING;
        }

        boolean hasPlace(int i) {
            return i < size && isBelow(i, numbers.length);
        }

        void begin(int n) {
            Arrays.fill(numbers, 0);
            size = n;
        }

        int get(int i) {
            return hasPlace(i) ? numbers[i] : 0;
        }

        void set(int i, int v) {
            if (hasPlace(i)) {
                numbers[i] = v;
            }
        }
    }
}
