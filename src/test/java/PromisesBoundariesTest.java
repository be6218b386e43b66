import java.util.TreeSet;

/**
 * Promises 1 to 40: each run is named by the promise and the sentence whose boundary it looks at, with
 * the number just inside and the one just outside. How REFUSALS go ahead of one another, and that they
 * change nothing, is looked at in RefusalsTest.
 */
public final class PromisesBoundariesTest {
    private static final Calls CALLS = new Calls("PromisesBoundariesTest");
    private static final int PROMISES = 40;
    private static final TreeSet<Integer> MET = new TreeSet<>();

    /** Two WALKERS on 100 PLACES, PLACES of the first: 5 43 81 19 57 95 33 71 .. */
    private static final String TWO = """
        walker 0 38 5 0 = 0
        walker 4 21 9 0 = 1
        """;

    public static void main(String[] args) {
        newObjectToChange();
        dropToPlace();
        marksToSplit();
        closestToCrowded();
        meetingToOdds();
        termsToNearest();
        floorsToLots();
        listToLays();
        judgeToKinds();
        undoToCount();
        for (int promise = 1; promise <= PROMISES; promise++) {
            CALLS.due("each promise has a run", "promise " + promise, MET.contains(promise) ? 1 : 0, 1);
        }
        CALLS.end();
    }

    private static void run(int promise, String sentence, String rows) {
        MET.add(promise);
        CALLS.run(promise + " " + sentence, rows);
    }

    private static void newObjectToChange() {
        run(1, "A CIRCLE of 100, no WALKERS", """
            count 0 = 0
            count 1 = 100
            of 0 0 = -1
            drop = -3
            """);
        run(1, "no letters, no LISTS, no IMAGE, nothing to be UNDONE, no REFUSALS", """
            count 2 = 0
            count 3 = 0
            count 11 = 0
            count 12 = 0
            count 13 = 0
            count 14 = 0
            count 15 = 0
            count 16 = 0
            walk = -1000
            look 0 0 = long -11
            look 1 0 = long -11
            look 2 0 = long -11
            on = -3
            undo = -3
            """);
        run(2, "A letter (0 .. 255)", """
            letter -1 = -4
            letter 0 = 1
            letter 255 = 2
            letter 256 = -6
            """);
        run(2, "-6 (72, too)", "letters " + "x0;".repeat(23) + """
            x0
            letter 59 = 72
            letter 59 = -6
            letter 0 = -6
            letter -1 = -4
            letter 256 = -6
            count 2 = 72
            count 14 = 1
            count 16 = 3
            walk = -2000
            letter 59 = 1
            """);
        run(3, "how many STATEMENTS: from one on", """
            walk = -1000
            letters c0100;
            walk = 1
            letters c0100;c0100;
            walk = 2
            """);
        run(3, "The letters are no more (with a FAULT neither)", """
            letters c0050;
            walk = 1
            count 2 = 0
            letters c
            walk = -1001
            count 2 = 0
            letters c0001;
            walk = -2000
            count 2 = 0
            walk = -1000
            """);
        run(3, "the FAULT (not counted)", """
            walk = -1000
            letters w6000000000;
            walk = -2000
            letters s00000;
            walk = -2000
            letters c0001;
            walk = -2000
            letters c2001;
            walk = -2000
            count 11 = 0
            count 12 = 0
            count 13 = 0
            count 14 = 0
            count 16 = 0
            """);
        run(4, "-4 2; -6 2000", """
            circle 1 = -4
            circle 2 = 100
            circle 2000 = 2
            circle 2001 = -6
            count 1 = 2000
            """);
        run(4, "-3 a STEP, a START that isn't less", """
            walker 0 60 0 0 = 0
            circle 60 = -3
            circle 61 = 100
            walker 0 0 60 0 = 1
            change 0 1 0 = 60
            circle 60 = -3
            circle 61 = 61
            drop = 1
            circle 2 = 61
            count 13 = 2
            """);
        run(5, "-2 KIND", """
            walker -1 0 0 0 = -2
            walker 0 0 0 0 = 0
            walker 5 0 0 0 = 1
            walker 6 0 0 0 = -2
            """);
        run(5, "-4 (any)", """
            walker 0 -1 0 0 = -4
            walker 0 0 -1 0 = -4
            walker 0 0 0 -1 = -4
            walker 0 0 0 0 = 0
            """);
        run(5, "-6 (Q less 1; Q less 1; 9)", """
            walker 0 100 0 0 = -6
            walker 0 0 100 0 = -6
            walker 0 0 0 10 = -6
            walker 0 99 0 0 = 0
            walker 0 0 99 0 = 1
            walker 0 0 0 9 = 2
            """);
        run(5, "-6 (five there are)", """
            walker 0 0 0 0 = 0
            walker 0 0 0 0 = 1
            walker 0 0 0 0 = 2
            walker 0 0 0 0 = 3
            walker 0 0 0 0 = 4
            walker 0 0 0 0 = -6
            walker 6 0 0 0 = -2
            walker 0 -1 0 0 = -4
            count 0 = 5
            """);
        run(6, "KIND (what 0): -4; -6 5", TWO + """
            change 0 0 -1 = -4
            change 0 0 6 = -6
            change 0 0 5 = 0
            change 0 0 0 = 5
            """);
        run(6, "STEP (1): -4; -6 Q less 1", TWO + """
            change 1 1 -1 = -4
            change 1 1 100 = -6
            change 1 1 99 = 21
            change 1 1 0 = 99
            """);
        run(6, "START (2): -4; -6 Q less 1", TWO + """
            change 1 2 -1 = -4
            change 1 2 100 = -6
            change 1 2 99 = 9
            change 1 2 0 = 99
            """);
        run(6, "FIGURE (3): -4; -6 9", TWO + """
            change 1 3 -1 = -4
            change 1 3 10 = -6
            change 1 3 9 = 0
            change 1 3 0 = 9
            """);
        run(6, "-1; -2 what", TWO + """
            change -1 0 0 = -1
            change 2 0 0 = -1
            change 0 -1 0 = -2
            change 0 4 0 = -2
            change 1 3 0 = 0
            """);
    }

    private static void dropToPlace() {
        run(7, "The last WALKER goes. -3 there is none", TWO + """
            drop = 1
            of 0 1 = 38
            of 1 1 = -1
            drop = 0
            drop = -3
            count 0 = 0
            """);
        run(8, "0 KIND .. 4 RETURN. -1; -2", TWO + """
            of -1 0 = -1
            of 2 0 = -1
            of 0 -1 = -2
            of 0 0 = 0
            of 0 4 = 50
            of 0 5 = -2
            """);
        run(8, "RETURN (-9)", """
            circle 2000 = 100
            walker 0 1 0 0 = 0
            walker 4 1 0 0 = 1
            of 0 4 = 2000
            of 1 4 = -9
            count 11 = 0
            count 12 = 0
            """);
        run(9, "for one of a KIND, or of one under it, also under that", TWO + """
            taken 1 4 = 4
            taken 1 2 = 4
            taken 1 0 = 4
            taken 1 1 = -16
            taken 1 3 = -16
            taken 1 5 = -16
            taken 0 0 = 0
            taken 0 2 = -16
            """);
        run(9, "-1; -2; -16", TWO + """
            taken 2 6 = -1
            taken -1 0 = -1
            taken 0 6 = -2
            taken 0 -1 = -2
            taken 0 5 = -16
            count 11 = 2
            count 12 = 2
            count 16 = 0
            """);
        run(10, "(k 0 .. 4000)", TWO + """
            place 0 -1 = -4
            place 0 0 = 5
            place 0 4000 = 5
            place 0 4001 = -6
            place 2 0 = -1
            place -1 0 = -1
            """);
    }

    private static void marksToSplit() {
        run(11, "-4; -6 200", TWO + """
            marks 0 0 0 = -4
            marks 0 1 0 = 1
            marks 0 200 0 = 50
            marks 0 201 0 = -6
            """);
        run(11, "how many (what 0), the least (1), the greatest (2). -1; -2", TWO + """
            marks 0 7 -1 = -2
            marks 0 7 0 = 7
            marks 0 7 1 = 5
            marks 0 7 2 = 95
            marks 0 7 3 = -2
            marks 2 7 0 = -1
            """);
        run(12, "how many (j -1), the j-th; -9 there are not so many; -4 (n, j)", TWO + """
            lengths 0 7 -2 = -4
            lengths 0 7 -1 = 3
            lengths 0 7 0 = 10
            lengths 0 7 2 = 24
            lengths 0 7 3 = -9
            lengths 0 7 2147483647 = -9
            """);
        run(12, "-1; -4 (n, j); -6 200", TWO + """
            lengths 2 1 0 = -1
            lengths 0 0 0 = -4
            lengths 0 1 0 = 100
            lengths 0 200 0 = 2
            lengths 0 201 0 = -6
            lengths 0 201 -2 = -4
            """);
        run(13, "-9 there are not so many; -4 (n, j below 0)", TWO + """
            many 0 7 -1 = -4
            many 0 7 0 = 2
            many 0 7 1 = 4
            many 0 7 2 = 1
            many 0 7 3 = -9
            many 0 7 2147483647 = -9
            """);
        run(13, "-1; -4 (n, j below 0); -6 200", TWO + """
            many 2 1 0 = -1
            many 0 0 0 = -4
            many 0 1 0 = 1
            many 0 200 0 = 50
            many 0 201 0 = -6
            many 0 201 -1 = -4
            """);
        run(14, "-9 there are not so many; -4 (n, j below 0)", TWO + """
            seen 0 7 -1 = -4
            seen 0 7 0 = 14
            seen 0 7 2 = 24
            seen 0 7 3 = -9
            seen 0 7 2147483647 = -9
            """);
        run(14, "-1; -4 (n, j below 0); -6 200", TWO + """
            seen 2 1 0 = -1
            seen 0 0 0 = -4
            seen 0 1 0 = 100
            seen 0 200 0 = 2
            seen 0 201 0 = -6
            seen 0 201 -1 = -4
            """);
        run(15, "the MARK (what 0; -9), how far from it (1; -9). -2", TWO + """
            split 0 7 -1 = -2
            split 0 7 0 = 57
            split 0 7 1 = 14
            split 0 7 2 = -2
            split 0 49 0 = 65
            split 0 49 1 = 2
            split 0 50 0 = -9
            split 0 50 1 = -9
            split 0 50 2 = -2
            """);
        run(15, "-1; -4; -6 200", TWO + """
            split 2 1 0 = -1
            split 0 0 0 = -4
            split 0 1 0 = 5
            split 0 200 0 = -9
            split 0 201 0 = -6
            """);
    }

    private static void closestToCrowded() {
        run(16, "the LENGTH (what 0), the MARK (1). -2", TWO + """
            closest 0 7 -1 = -2
            closest 0 7 0 = 10
            closest 0 7 1 = 33
            closest 0 7 2 = -2
            """);
        run(16, "-1; -4; -6 200", TWO + """
            closest 2 1 0 = -1
            closest 0 0 0 = -4
            closest 0 1 0 = 100
            closest 0 200 0 = 2
            closest 0 200 1 = 1
            closest 0 201 0 = -6
            """);
        run(17, "part 0 above, 1 below the line; -2", TWO + """
            off 0 7 -1 = long -2
            off 0 7 0 = 101
            off 0 7 1 = 700
            off 0 7 2 = long -2
            """);
        run(17, "-1; -4; -6 200", TWO + """
            off 2 1 0 = long -1
            off 0 0 0 = long -4
            off 0 1 0 = 19
            off 0 1 1 = 20
            off 0 200 0 = 1
            off 0 200 1 = 100
            off 0 201 0 = long -6
            """);
        run(18, "how many (j -1), the j-th; -9 there are not so many; -4 (n, j below -1)", TWO + """
            nearer 0 9 -2 = -4
            nearer 0 9 -1 = 5
            nearer 0 9 0 = 1
            nearer 0 9 4 = 8
            nearer 0 9 5 = -9
            nearer 0 9 2147483647 = -9
            """);
        run(18, "-1; -4 (n, j below -1); -6 200", TWO + """
            nearer 2 1 0 = -1
            nearer 0 0 0 = -4
            nearer 0 1 -1 = 0
            nearer 0 8 -1 = 4
            nearer 0 200 -1 = 7
            nearer 0 201 -1 = -6
            nearer 0 201 -2 = -4
            """);
        run(19, "-4 (n, m); -6 (200; 9)", TWO + """
            crowded 0 0 1 0 = -4
            crowded 0 1 0 0 = -4
            crowded 0 1 1 0 = 0
            crowded 0 200 9 1 = 24
            crowded 0 201 9 0 = -6
            crowded 0 200 10 0 = -6
            crowded 0 201 0 0 = -4
            crowded 0 0 10 0 = -4
            """);
        run(19, "the class (what 0), how many (1). -1; -2", TWO + """
            crowded 2 7 2 0 = -1
            crowded 0 7 2 -1 = -2
            crowded 0 7 2 0 = 1
            crowded 0 7 2 1 = 7
            crowded 0 7 2 2 = -2
            """);
    }

    private static void meetingToOdds() {
        run(20, "k (what 0; -9), that PLACE (1; -9)", TWO + """
            meeting 0 1 0 = 64
            meeting 0 1 1 = 37
            walker 0 38 6 0 = 2
            meeting 0 2 0 = -9
            meeting 0 2 1 = -9
            meeting 0 1 -1 = -2
            meeting 0 1 2 = -2
            """);
        run(20, "-1 (one twice, too)", TWO + """
            meeting 0 0 0 = -1
            meeting 1 1 0 = -1
            meeting 0 2 0 = -1
            meeting 2 0 0 = -1
            meeting 2 2 0 = -1
            meeting -1 0 0 = -1
            meeting 0 -1 0 = -1
            count 11 = 7
            """);
        run(21, "-4; -6 200; -2", """
            walker 0 38 5 0 = 0
            walker 2 38 5 0 = 1
            shared 0 1 0 0 = -4
            shared 0 1 1 0 = 1
            shared 0 1 1 1 = 5
            shared 0 1 200 0 = 50
            shared 0 1 200 1 = 1
            shared 0 1 201 0 = -6
            shared 0 1 1 -1 = -2
            shared 0 1 1 2 = -2
            """);
        run(21, "the least (1; -9)", """
            walker 0 2 0 0 = 0
            walker 0 2 1 0 = 1
            shared 0 1 200 0 = 0
            shared 0 1 200 1 = -9
            """);
        run(21, "-1 (one twice, too)", TWO + """
            shared 0 0 1 0 = -1
            shared 1 1 1 0 = -1
            shared 0 2 1 0 = -1
            shared 2 0 1 0 = -1
            shared -1 0 1 0 = -1
            shared 0 -1 1 0 = -1
            count 11 = 6
            """);
        run(22, "part 0 above, 1 below the line; -2", TWO + """
            odds 0 5 -1 = long -2
            odds 0 5 0 = 1
            odds 0 5 1 = 20
            odds 0 5 2 = long -2
            """);
        run(22, "-1; -4; -6 200", TWO + """
            odds 2 1 0 = long -1
            odds 0 0 0 = long -4
            odds 0 1 0 = 1
            odds 0 1 1 = 100
            odds 0 200 0 = 1
            odds 0 200 1 = 2
            odds 0 201 0 = long -6
            """);
    }

    private static void termsToNearest() {
        run(23, "how many (i -1), the i-th; -9 there are not so many; -4 below -1", TWO + """
            terms 0 -2 = -4
            terms 0 -1 = 7
            terms 0 0 = 0
            terms 0 6 = 2
            terms 0 7 = -9
            terms 0 2147483647 = -9
            terms 2 0 = -1
            terms -1 0 = -1
            """);
        run(24, "-4; -6 no such TERM", TWO + """
            convergent 0 -1 0 = long -4
            convergent 0 0 0 = 0
            convergent 0 0 1 = 1
            convergent 0 6 0 = 19
            convergent 0 6 1 = 50
            convergent 0 7 0 = long -6
            convergent 0 2147483647 0 = long -6
            """);
        run(24, "part 0 above, 1 below the line. -1; -2", TWO + """
            convergent 2 0 0 = long -1
            convergent 0 0 -1 = long -2
            convergent 0 0 2 = long -2
            convergent 0 7 2 = long -6
            """);
        run(25, "-4 1; -6 99", TWO + """
            nearest 0 0 0 = -4
            nearest 0 1 0 = 0
            nearest 0 1 1 = 1
            nearest 0 99 0 = 19
            nearest 0 99 1 = 50
            nearest 0 100 0 = -6
            """);
        run(25, "h (what 0), k (1). -1; -2", TWO + """
            nearest 2 1 0 = -1
            nearest 0 1 -1 = -2
            nearest 0 1 2 = -2
            nearest 0 100 2 = -6
            """);
    }

    private static void floorsToLots() {
        run(26, "-1; -4; -6", TWO + """
            floors 2 0 = long -1
            floors 0 -1 = long -4
            floors 0 0 = 0
            floors 0 4000 = 3037280
            floors 0 4001 = long -6
            """);
        run(27, "-1; -4; -6", TWO + """
            rests 2 0 = long -1
            rests 0 -1 = long -4
            rests 0 0 = 0
            rests 0 4000 = 196000
            rests 0 4001 = long -6
            """);
        run(28, "-1", TWO + """
            reciprocal -1 = long -1
            reciprocal 0 = 3664
            reciprocal 1 = 1980
            reciprocal 2 = long -1
            """);
        run(28, "STEP 0, 1 and Q less 1", """
            walker 0 0 0 0 = 0
            walker 0 1 0 0 = 1
            walker 0 99 0 0 = 2
            reciprocal 0 = 0
            reciprocal 1 = 0
            reciprocal 2 = 9702
            """);
        run(29, "-4 below 1; -6 50", TWO + """
            lots 0 0 0 = -4
            lots 1 0 0 = 1
            lots 51 0 0 = -6
            """);
        run(29, "-2", TWO + """
            lots 1 0 -1 = -2
            lots 1 0 2 = -2
            """);
        run(29, "-3 no WALKERS", """
            lots 1 0 0 = -3
            lots 0 0 0 = -4
            lots 51 0 0 = -6
            lots 1 0 2 = -2
            walker 0 0 3 0 = 0
            lots 1 0 0 = 1
            lots 50 0 1 = 150
            drop = 0
            lots 1 0 0 = -3
            """);
    }

    private static void listToLays() {
        run(30, "-6 40; -14", """
            list 0 -1 = -14
            list 0 0 = 1
            list 0 40 = 1
            list 0 41 = -6
            look 0 39 = 0
            list 0 -2147483648 = -14
            look 0 39 = 0
            count 14 = 0
            count 16 = 1
            """);
        run(30, "-1", """
            list -1 0 = -1
            list 0 0 = 1
            list 2 0 = 1
            list 3 0 = -1
            list 3 41 = -1
            list 3 -1 = -1
            """);
        run(30, "a row of n ints, all 0", """
            list 0 2 = 1
            put 0 0 1 = 1
            put 0 1 1 = 1
            list 0 1 = 1
            look 0 0 = 0
            list 0 2 = 1
            look 0 1 = 0
            """);
        run(31, "-1; -11; -13", """
            put -1 0 0 = -1
            put 3 0 0 = -1
            put 0 0 0 = -11
            list 0 2 = 1
            put 0 -1 5 = -13
            put 0 0 5 = 1
            put 0 1 6 = 1
            put 0 2 7 = -13
            look 0 0 = 5
            look 0 1 = 6
            """);
        run(31, "an empty LIST has no place", """
            list 0 0 = 1
            put 0 0 1 = -13
            look 0 0 = long -13
            """);
        run(31, "becomes v: the least and the greatest int", """
            list 0 1 = 1
            put 0 0 -2147483648 = 1
            look 0 0 = -2147483648
            put 0 0 2147483647 = 1
            look 0 0 = 2147483647
            """);
        run(32, "-1; -11; -13", """
            look -1 0 = long -1
            look 3 0 = long -1
            look 0 0 = long -11
            list 0 2 = 1
            look 0 -1 = long -13
            look 0 0 = 0
            look 0 1 = 0
            look 0 2 = long -13
            """);
        run(33, "as many as have a place", TWO + """
            list 0 40 = 1
            lays 0 0 0 = 40
            look 0 39 = 87
            lays 0 39 1 = 1
            look 0 39 = 9
            look 0 38 = 49
            lays 0 38 1 = 2
            look 0 38 = 9
            look 0 39 = 30
            """);
        run(33, "-13 no such place (with the size of the LIST, too)", TWO + """
            list 0 3 = 1
            lays 0 -1 0 = -13
            lays 0 2 0 = 1
            lays 0 3 0 = -13
            lays 0 4 0 = -13
            list 0 0 = 1
            lays 0 0 0 = -13
            list 0 40 = 1
            lays 0 40 0 = -13
            """);
        run(33, "-1 either; -11", TWO + """
            lays -1 0 0 = -1
            lays 3 0 0 = -1
            lays 0 0 -1 = -1
            lays 0 0 2 = -1
            lays 0 0 0 = -11
            """);
    }

    private static void judgeToKinds() {
        run(34, "JUDGED; -9", TWO + """
            list 0 2 = 1
            lays 0 0 0 = 2
            judge 0 0 = -9
            judge 0 1 = 0
            put 0 1 42 = 1
            judge 0 0 = 1
            list 0 0 = 1
            judge 0 0 = -9
            """);
        run(34, "-1 either; -11", TWO + """
            judge -1 0 = -1
            judge 3 0 = -1
            judge 0 -1 = -1
            judge 0 2 = -1
            judge 0 0 = -11
            count 11 = 4
            """);
        run(35, "how many (what 0), the least (1; -9). -2", """
            list 0 3 = 1
            steps 0 -1 = -2
            steps 0 0 = 1
            steps 0 1 = 0
            steps 0 2 = -2
            put 0 2 1 = 1
            steps 0 0 = 0
            steps 0 1 = -9
            """);
        run(35, "-1; -11", """
            steps -1 0 = -1
            steps 3 0 = -1
            steps 0 0 = -11
            steps 0 2 = -2
            """);
        run(35, "-3 it tells fewer than two, or what is no PLACE", """
            list 0 0 = 1
            steps 0 0 = -3
            list 0 1 = 1
            steps 0 0 = -3
            list 0 2 = 1
            steps 0 0 = 1
            put 0 0 100 = 1
            steps 0 0 = -3
            put 0 0 99 = 1
            steps 0 1 = 1
            put 0 1 -1 = 1
            steps 0 0 = -3
            put 0 1 0 = 1
            steps 0 1 = 1
            count 13 = 4
            """);
        run(36, "-1 either; -11", TWO + """
            kinds -1 0 = -1
            kinds 3 0 = -1
            kinds 0 -1 = -1
            kinds 0 2 = -1
            kinds 0 0 = -11
            """);
        run(36, "-3 it tells fewer than two, or what is no PLACE", TWO + """
            list 0 0 = 1
            kinds 0 0 = -3
            list 0 1 = 1
            kinds 0 0 = -3
            list 0 2 = 1
            kinds 0 0 = 0
            put 0 0 100 = 1
            kinds 0 0 = -3
            put 0 0 -1 = 1
            kinds 0 0 = -3
            put 0 0 99 = 1
            kinds 0 0 = 0
            count 13 = 4
            """);
        run(36, "(bits): none, one, all", TWO + """
            walker 0 0 0 0 = 2
            list 0 40 = 1
            kinds 0 0 = 0
            kinds 0 2 = 63
            lays 0 0 1 = 40
            kinds 0 1 = 16
            """);
    }

    private static void undoToCount() {
        run(37, "how many still can be. -3 there is none", TWO + """
            undo = -3
            change 0 1 1 = 38
            change 0 1 2 = 1
            undo = 1
            undo = 0
            undo = -3
            of 0 1 = 38
            count 13 = 2
            """);
        StringBuilder many = new StringBuilder(TWO);
        for (int i = 0; i < 17; i++) {
            many.append("change 0 2 ").append(i).append(" = ").append(i == 0 ? 5 : i - 1).append('\n');
        }
        for (int i = 15; i >= 0; i--) {
            many.append("undo = ").append(i).append('\n');
        }
        run(37, "the 17th change leaves the first one no more", many + """
            undo = -3
            of 0 2 = 0
            """);
        run(37, "behind an undo there is room for a change more", many + """
            change 0 2 7 = 0
            count 3 = 1
            undo = 0
            of 0 2 = 0
            """);
        run(38, "how many WALKERS: none, five", """
            image = 0
            walker 0 0 0 0 = 0
            walker 0 0 0 0 = 1
            walker 0 0 0 0 = 2
            walker 0 0 0 0 = 3
            walker 0 0 0 0 = 4
            image = 5
            """);
        run(39, "-3 there is no IMAGE", """
            on = -3
            image = 0
            on = 0
            on = 0
            count 13 = 1
            """);
        run(40, "0 .. 3, 11 .. 16; -9 for another what", """
            count -1 = -9
            count 0 = 0
            count 3 = 0
            count 4 = -9
            count 10 = -9
            count 11 = 0
            count 16 = 0
            count 17 = -9
            count -2147483648 = -9
            count 2147483647 = -9
            count 12 = 0
            """);
        run(40, "REFUSALS -1 .. -6, each by itself; there is no -5", TWO + """
            of 2 0 = -1
            count 11 = 1
            of 0 5 = -2
            count 12 = 1
            on = -3
            count 13 = 1
            place 0 -1 = -4
            count 14 = 1
            place 0 4001 = -6
            count 16 = 1
            count 11 = 1
            count 12 = 1
            count 13 = 1
            count 14 = 1
            count 15 = 0
            """);
    }
}
