/** The document's section "Terms": each run is named by the sentence whose boundary it looks at. */
public final class TermsBoundariesTest {
    private static final Calls CALLS = new Calls("TermsBoundariesTest");
    private static final int KINDS = 6;

    public static void main(String[] args) {
        circle();
        wrapAround();
        allPlacesBelowQ();
        walkers();
        kindsOfPlaces();
        marks();
        gaps();
        lengths();
        split();
        off();
        nearer();
        closestAndCrowded();
        returns();
        meetings();
        shared();
        terms();
        nearest();
        sums();
        walkLetters();
        walkForm();
        walkLetterByLetter();
        walkNumbers();
        walkWalkers();
        walkBehindOthers();
        lists();
        judged();
        stepsAndKindsBy();
        oddsAndLots();
        undone();
        image();
        besideTheImage();
        fractions();
        refusals();
        CALLS.end();
    }

    // ---- part 1

    private static void circle() {
        CALLS.run("1 Q PLACES (2 ..", """
            circle 2 = 100
            circle 1 = -4
            circle 0 = -4
            count 1 = 2
            circle 3 = 2
            """);
        CALLS.run("1 Q PLACES (.. 2000", """
            circle 2000 = 100
            circle 2001 = -6
            count 1 = 2000
            circle 1999 = 2000
            """);
        CALLS.run("1 100 at first", """
            count 1 = 100
            walker 0 99 99 0 = 0
            walker 0 100 0 0 = -6
            circle 100 = 100
            """);
        CALLS.run("1 numbered 0 .. Q less 1, in the least CIRCLE", """
            circle 2 = 100
            walker 0 1 1 0 = 0
            walker 0 2 0 0 = -6
            walker 0 0 2 0 = -6
            place 0 0 = 1
            place 0 1 = 0
            place 0 2 = 1
            place 0 3999 = 0
            place 0 4000 = 1
            """);
        CALLS.run("1 numbered 0 .. Q less 1, in the greatest CIRCLE", """
            circle 2000 = 100
            walker 0 1999 1999 0 = 0
            walker 0 2000 0 0 = -6
            walker 0 0 2000 0 = -6
            place 0 0 = 1999
            place 0 1 = 1998
            place 0 1999 = 0
            place 0 2000 = 1999
            """);
    }

    private static void wrapAround() {
        CALLS.run("1 behind the last comes 0 again: WALKER", """
            walker 0 1 98 0 = 0
            place 0 1 = 99
            place 0 2 = 0
            place 0 3 = 1
            place 0 102 = 0
            """);
        CALLS.run("1 behind the last comes 0 again: SQUARE", """
            walker 1 1 96 0 = 0
            place 0 1 = 97
            place 0 2 = 0
            place 0 3 = 5
            """);
        CALLS.run("1 ahead of 0 comes the last: MIRRORED", """
            walker 2 1 1 0 = 0
            place 0 1 = 0
            place 0 2 = 99
            place 0 3 = 98
            place 0 101 = 0
            place 0 4000 = 1
            """);
        CALLS.run("1 behind the last comes 0 again: SKIPPING", """
            walker 3 1 97 1 = 0
            place 0 1 = 98
            place 0 2 = 0
            place 0 3 = 1
            """);
        CALLS.run("1 both ways round: PAIRED", """
            walker 4 1 0 0 = 0
            place 0 1 = 1
            place 0 2 = 99
            place 0 3 = 2
            place 0 4 = 98
            change 0 2 99 = 0
            place 0 1 = 0
            place 0 2 = 98
            """);
        CALLS.run("1 behind the last comes 0 again: TURNED", """
            walker 5 0 82 9 = 0
            place 0 1 = 91
            place 0 2 = 0
            place 0 3 = 9
            """);
        CALLS.run("1 modulo Q, FIGURE times k above a small Q", """
            circle 2 = 100
            walker 5 0 0 9 = 0
            place 0 1 = 1
            place 0 2 = 0
            place 0 3999 = 1
            place 0 4000 = 0
            """);
    }

    private static void allPlacesBelowQ() {
        for (int q : new int[] {2, 3, 7, 100, 1999, 2000}) {
            for (int kind = 0; kind < KINDS; kind++) {
                for (int step : new int[] {0, 1, q / 2, q - 1}) {
                    placesBelow(q, kind, step);
                }
            }
        }
    }

    private static void placesBelow(int q, int kind, int step) {
        StepsRoundCircle object = new StepsRoundCircle();
        object.circle(q);
        object.walker(kind, step, q - 1, 9);
        boolean all = true;
        for (int k = 0; k <= 4000; k += 17) {
            int place = object.place(0, k);
            all &= place >= 0 && place < q;
        }
        int last = object.place(0, 4000);
        all &= last >= 0 && last < q && object.place(0, 0) == q - 1;
        CALLS.due("1 all PLACES are 0 .. Q less 1", "Q " + q + " KIND " + kind + " STEP " + step, all ? 1 : 0, 1);
    }

    private static void walkers() {
        CALLS.run("1 WALKERS have numbers, 0 .. as they come, 5 at most", """
            of 0 0 = -1
            walker 0 0 0 0 = 0
            of 1 0 = -1
            walker 1 1 1 1 = 1
            walker 2 2 2 2 = 2
            walker 3 3 3 3 = 3
            of 4 0 = -1
            walker 4 4 4 4 = 4
            of 4 0 = 4
            of 5 0 = -1
            walker 5 5 5 5 = -6
            count 0 = 5
            drop = 4
            walker 5 5 5 5 = 4
            of 4 0 = 5
            walker 0 0 0 0 = -6
            """);
        CALLS.run("1 a STEP and a START (0 .. Q less 1 each)", """
            circle 50 = 100
            walker 0 0 49 0 = 0
            walker 0 49 0 0 = 1
            walker 0 50 0 0 = -6
            walker 0 0 50 0 = -6
            walker 0 -1 0 0 = -4
            walker 0 0 -1 0 = -4
            change 0 1 49 = 0
            change 0 1 50 = -6
            change 0 1 -1 = -4
            change 1 2 49 = 0
            change 1 2 50 = -6
            change 1 2 -1 = -4
            """);
        CALLS.run("1 a FIGURE (0 .. 9)", """
            walker 0 0 0 0 = 0
            walker 0 0 0 9 = 1
            walker 0 0 0 10 = -6
            walker 0 0 0 -1 = -4
            change 0 3 9 = 0
            change 0 3 0 = 9
            change 0 3 10 = -6
            change 0 3 -1 = -4
            circle 2 = 100
            change 0 3 9 = 0
            """);
        CALLS.run("1 KINDS 0 .. 5", """
            walker 0 0 0 0 = 0
            walker 5 0 0 0 = 1
            walker 6 0 0 0 = -2
            walker -1 0 0 0 = -2
            change 0 0 5 = 0
            change 0 0 6 = -6
            change 0 0 -1 = -4
            """);
    }

    private static void kindsOfPlaces() {
        StringBuilder zeroth = new StringBuilder("walker 0 13 77 9 = 0\n");
        for (int kind = 0; kind < KINDS; kind++) {
            zeroth.append("change 0 0 ").append(kind).append(" = ").append(Math.max(0, kind - 1)).append('\n');
            zeroth.append("place 0 0 = 77\n");
        }
        CALLS.run("1 k 0, 1, ..: the 0th PLACE of each KIND is START", zeroth.toString());
        CALLS.run("1 SKIPPING: k divided by (FIGURE plus 1), cut, FIGURE 9", """
            walker 3 1 0 9 = 0
            place 0 9 = 9
            place 0 10 = 11
            place 0 19 = 20
            place 0 20 = 22
            """);
        CALLS.run("1 SKIPPING: FIGURE 0 goes twice as far", """
            walker 3 1 0 0 = 0
            place 0 1 = 2
            place 0 2 = 4
            place 0 49 = 98
            place 0 50 = 0
            """);
        CALLS.run("1 PAIRED: even k half of k, odd k half of (k plus 1)", """
            walker 4 3 10 9 = 0
            place 0 0 = 10
            place 0 1 = 13
            place 0 2 = 7
            place 0 3 = 16
            place 0 4 = 4
            place 0 5 = 19
            place 0 8 = 98
            """);
        CALLS.run("1 TURNED: FIGURE 0 is a SQUARE, FIGURE 9 is 9 times k more", """
            walker 5 3 1 0 = 0
            place 0 5 = 76
            change 0 3 9 = 0
            place 0 5 = 21
            place 0 1 = 13
            change 0 0 1 = 5
            place 0 5 = 76
            """);
        CALLS.run("1 k times k times STEP is not cut off where an int ends", """
            circle 1997 = 100
            walker 1 1996 0 0 = 0
            place 0 4000 = 1961
            place 0 1037 = 1014
            """);
        CALLS.run("1 SQUARE, MIRRORED, SKIPPING under WALKER, PAIRED under MIRRORED, TURNED under SQUARE",
                takenForEach());
        CALLS.run("1 FIGURE counts for SKIPPING and TURNED alone", """
            walker 0 7 1 0 = 0
            walker 0 7 1 9 = 1
            place 0 20 = 41
            place 1 20 = 41
            change 0 0 1 = 0
            change 1 0 1 = 0
            place 0 20 = 1
            place 1 20 = 1
            change 0 0 2 = 1
            change 1 0 2 = 1
            place 0 20 = 61
            place 1 20 = 61
            change 0 0 4 = 2
            change 1 0 4 = 2
            place 0 20 = 31
            place 1 20 = 31
            """);
    }

    /** Each KIND taken for each: only for itself and for those that it stands under. */
    private static String takenForEach() {
        String[] ownAndAbove = {"0", "10", "20", "30", "420", "510"};
        StringBuilder rows = new StringBuilder("walker 0 1 1 1 = 0\n");
        for (int kind = 0; kind < KINDS; kind++) {
            rows.append("change 0 0 ").append(kind).append(" = ").append(Math.max(0, kind - 1)).append('\n');
            for (int other = 0; other < KINDS; other++) {
                boolean fits = ownAndAbove[kind].indexOf('0' + other) >= 0;
                rows.append("taken 0 ").append(other).append(" = ").append(fits ? kind : -16).append('\n');
            }
        }
        return rows.toString();
    }

    // ---- part 2

    private static void marks() {
        CALLS.run("2 MARKS behind n (1 ..", """
            walker 0 1 99 0 = 0
            marks 0 1 0 = 1
            marks 0 1 1 = 99
            marks 0 1 2 = 99
            marks 0 0 0 = -4
            marks 0 2 0 = 2
            marks 0 2 1 = 0
            marks 0 2 2 = 99
            """);
        CALLS.run("2 MARKS behind n (.. 200)", """
            circle 2000 = 100
            walker 0 1 0 0 = 0
            marks 0 199 0 = 199
            marks 0 200 0 = 200
            marks 0 200 2 = 199
            marks 0 201 0 = -6
            """);
        CALLS.run("2 the PLACES numbered 0 .. n less 1: the n-th is not among them", """
            walker 0 10 0 0 = 0
            marks 0 3 2 = 20
            marks 0 4 2 = 30
            """);
        CALLS.run("2 each once", """
            walker 0 0 7 0 = 0
            walker 0 50 7 0 = 1
            marks 0 200 0 = 1
            marks 0 200 1 = 7
            marks 0 200 2 = 7
            marks 1 200 0 = 2
            marks 1 2 0 = 2
            """);
        CALLS.run("2 as many MARKS as PLACES, and no more", """
            walker 0 1 0 0 = 0
            marks 0 99 0 = 99
            marks 0 100 0 = 100
            marks 0 101 0 = 100
            marks 0 200 0 = 100
            """);
    }

    private static void gaps() {
        CALLS.run("2 round (Q, if there is only one)", """
            walker 0 0 0 0 = 0
            walker 0 0 1 0 = 1
            lengths 0 1 0 = 100
            lengths 0 200 0 = 100
            lengths 1 1 0 = 100
            many 1 200 0 = 1
            circle 2 = 100
            lengths 1 1 0 = 2
            circle 2000 = 2
            lengths 1 1 0 = 2000
            seen 1 1 0 = 2000
            closest 1 1 0 = 2000
            closest 1 1 1 = 1
            """);
        CALLS.run("2 up to the next MARK, round: from the last MARK to the first", """
            walker 0 1 99 0 = 0
            lengths 0 2 -1 = 2
            lengths 0 2 0 = 1
            lengths 0 2 1 = 99
            closest 0 2 1 = 99
            seen 0 2 0 = 99
            seen 0 2 1 = 1
            """);
        CALLS.run("2 two MARKS opposite: one LENGTH, two GAPS", """
            walker 0 50 7 0 = 0
            lengths 0 2 -1 = 1
            lengths 0 2 0 = 50
            many 0 2 0 = 2
            closest 0 2 1 = 7
            """);
        CALLS.run("2 all PLACES are MARKS: GAPS of 1, none of 0", """
            circle 2 = 100
            walker 0 1 0 0 = 0
            lengths 0 2 -1 = 1
            lengths 0 2 0 = 1
            many 0 2 0 = 2
            many 0 200 0 = 2
            lengths 0 200 1 = -9
            """);
    }

    private static void lengths() {
        // a SQUARE of STEP 1: MARKS 0 1 4 9 16 25, GAPS 1 3 5 7 9 75
        String rows = "walker 1 1 0 0 = 0\n";
        CALLS.run("2 LENGTHS: the unlike ones, the least first: how many; the j-th", rows + """
            lengths 0 6 -1 = 6
            lengths 0 6 0 = 1
            lengths 0 6 4 = 9
            lengths 0 6 5 = 75
            lengths 0 6 6 = -9
            lengths 0 6 2147483647 = -9
            lengths 0 6 -2 = -4
            """);
        CALLS.run("2 LENGTHS: how many GAPS have it", rows + """
            many 0 6 0 = 1
            many 0 6 5 = 1
            many 0 6 6 = -9
            many 0 6 -1 = -4
            """);
        // from 30 on: MARKS 30 31 34 39 46 55
        CALLS.run("2 FIRST SEEN: GAPS taken from the least MARK on, upward", rows + """
            change 0 2 30 = 0
            seen 0 6 0 = 1
            seen 0 6 4 = 9
            seen 0 6 5 = 75
            seen 0 6 6 = -9
            seen 0 6 -1 = -4
            """);
        // from 90 on: MARKS 90 91 94 99 6 15, the least is 6: GAPS 9 75 1 3 5 7
        CALLS.run("2 FIRST SEEN: the least MARK is not the first PLACE", rows + """
            change 0 2 90 = 0
            seen 0 6 0 = 9
            seen 0 6 1 = 75
            seen 0 6 2 = 1
            seen 0 6 5 = 7
            seen 0 6 6 = -9
            lengths 0 6 0 = 1
            lengths 0 6 5 = 75
            """);
        CALLS.run("2 LENGTHS: 35 unlike ones among 200 GAPS", """
            circle 1999 = 100
            walker 1 1 0 0 = 0
            marks 0 200 0 = 200
            lengths 0 200 -1 = 35
            lengths 0 200 34 = 48
            lengths 0 200 35 = -9
            many 0 200 34 = 1
            many 0 200 35 = -9
            seen 0 200 34 = 40
            seen 0 200 35 = -9
            """);
    }

    private static void split() {
        // PLACES 0 3 6 9 2 5 8 1 4 7 0
        String ten = "circle 10 = 100\nwalker 0 3 0 0 = 0\n";
        CALLS.run("2 SPLIT: just behind its MARK", ten + """
            split 0 7 0 = 0
            split 0 7 1 = 1
            """);
        CALLS.run("2 SPLIT: just ahead of the next MARK", ten + """
            split 0 4 0 = 0
            split 0 4 1 = 2
            """);
        CALLS.run("2 SPLIT: neither at its MARK nor at the next one: -9", ten + """
            split 0 9 0 = 6
            split 0 9 1 = 1
            split 0 10 0 = -9
            split 0 10 1 = -9
            split 0 11 0 = -9
            split 0 200 1 = -9
            """);
        CALLS.run("2 SPLIT: at the only MARK, -9", """
            walker 0 0 99 0 = 0
            split 0 1 0 = -9
            split 0 1 1 = -9
            """);
        CALLS.run("2 SPLIT: one MARK, its GAP is all the way round", """
            walker 0 99 0 0 = 0
            walker 0 1 99 0 = 1
            walker 0 1 0 0 = 2
            split 0 1 0 = 0
            split 0 1 1 = 99
            split 1 1 0 = 99
            split 1 1 1 = 1
            split 2 1 0 = 0
            split 2 1 1 = 1
            """);
        CALLS.run("2 SPLIT: the GAP that goes round, the PLACE at 0", """
            walker 0 40 20 0 = 0
            split 0 2 0 = 60
            split 0 2 1 = 40
            """);
        CALLS.run("2 SPLIT: the GAP that goes round, the PLACE at Q less 1", """
            walker 0 40 19 0 = 0
            split 0 2 0 = 59
            split 0 2 1 = 40
            """);
        CALLS.run("2 SPLIT: behind 200 the PLACE numbered 200", """
            circle 2000 = 100
            walker 0 1 0 0 = 0
            walker 2 1 0 0 = 1
            split 0 200 0 = 199
            split 0 200 1 = 1
            split 1 200 0 = 0
            split 1 200 1 = 1800
            """);
    }

    private static void off() {
        CALLS.run("2 OFF of one PLACE: at 0 it is 1, by 1", """
            walker 0 0 0 0 = 0
            off 0 1 0 = 1
            off 0 1 1 = 1
            off 0 200 0 = 1
            off 0 200 1 = 1
            """);
        CALLS.run("2 OFF of one PLACE: 1 / n less m / Q, or m / Q less 0 / n, whichever is greater", """
            walker 0 0 99 0 = 0
            walker 0 0 50 0 = 1
            walker 0 0 49 0 = 2
            walker 0 0 51 0 = 3
            off 0 1 0 = 99
            off 0 1 1 = 100
            off 1 1 0 = 1
            off 1 1 1 = 2
            off 2 1 0 = 51
            off 2 1 1 = 100
            off 3 1 0 = 51
            off 3 1 1 = 100
            """);
        CALLS.run("2 OFF: alike ones each", """
            walker 0 50 0 0 = 0
            off 0 2 0 = 1
            off 0 2 1 = 2
            off 0 3 0 = 2
            off 0 3 1 = 3
            off 0 4 0 = 1
            off 0 4 1 = 2
            """);
        CALLS.run("2 OFF: as even as they can lie", """
            circle 200 = 100
            walker 0 1 0 0 = 0
            off 0 200 0 = 1
            off 0 200 1 = 200
            circle 2 = 200
            off 0 2 0 = 1
            off 0 2 1 = 2
            """);
    }

    private static void nearer() {
        CALLS.run("2 NEARER: numbers k from 1 on (below n), 1 always, if it is below n", """
            walker 0 50 0 0 = 0
            nearer 0 1 -1 = 0
            nearer 0 1 0 = -9
            nearer 0 2 -1 = 1
            nearer 0 2 0 = 1
            nearer 0 2 1 = -9
            nearer 0 3 -1 = 2
            nearer 0 3 1 = 2
            """);
        CALLS.run("2 NEARER: 1 also if the 1st PLACE is START, and none behind it", """
            walker 0 0 7 0 = 0
            nearer 0 1 -1 = 0
            nearer 0 2 -1 = 1
            nearer 0 200 -1 = 1
            nearer 0 200 0 = 1
            nearer 0 200 1 = -9
            """);
        CALLS.run("2 NEARER: less far, not as far", """
            walker 0 1 0 0 = 0
            nearer 0 100 -1 = 1
            nearer 0 101 -1 = 2
            nearer 0 101 1 = 100
            nearer 0 200 -1 = 2
            """);
        CALLS.run("2 NEARER: the one way or the other round, whichever is less", """
            walker 0 49 98 0 = 0
            nearer 0 3 -1 = 2
            nearer 0 3 1 = 2
            nearer 0 51 -1 = 3
            nearer 0 51 2 = 49
            nearer 0 51 3 = -9
            """);
        CALLS.run("2 NEARER: of 200 the 199th PLACE is the last", """
            circle 199 = 100
            walker 0 1 0 0 = 0
            nearer 0 199 -1 = 1
            nearer 0 200 -1 = 2
            nearer 0 200 1 = 199
            circle 200 = 199
            nearer 0 200 -1 = 1
            """);
    }

    private static void closestAndCrowded() {
        CALLS.run("2 CLOSEST: its MARK, of several the least", """
            walker 0 25 90 0 = 0
            closest 0 4 0 = 25
            closest 0 4 1 = 15
            closest 0 3 0 = 25
            closest 0 3 1 = 15
            """);
        CALLS.run("2 CLOSEST: only the GAP that goes round is the least", """
            walker 0 2 99 0 = 0
            closest 0 2 0 = 2
            closest 0 2 1 = 99
            """);
        CALLS.run("2 CROWDED modulo m (1 ..", """
            walker 0 1 0 0 = 0
            crowded 0 7 1 0 = 0
            crowded 0 7 1 1 = 7
            crowded 0 7 0 0 = -4
            crowded 0 7 2 0 = 0
            crowded 0 7 2 1 = 4
            """);
        CALLS.run("2 CROWDED modulo m (.. 9)", """
            walker 0 0 98 0 = 0
            crowded 0 200 9 0 = 8
            crowded 0 200 9 1 = 200
            crowded 0 200 10 0 = -6
            crowded 0 200 8 0 = 2
            """);
        CALLS.run("2 CROWDED: of several the least", """
            walker 0 1 8 0 = 0
            crowded 0 1 9 0 = 8
            crowded 0 2 9 0 = 0
            crowded 0 2 9 1 = 1
            crowded 0 9 9 0 = 0
            crowded 0 10 9 0 = 8
            crowded 0 10 9 1 = 2
            """);
        CALLS.run("2 CROWDED: each PLACE by itself, by its number modulo Q", """
            circle 10 = 100
            walker 0 5 9 0 = 0
            crowded 0 4 3 0 = 0
            crowded 0 4 3 1 = 2
            crowded 0 4 5 0 = 4
            crowded 0 4 5 1 = 4
            """);
    }

    private static void returns() {
        CALLS.run("2 RETURN: the least k from 1 on", """
            walker 0 0 7 0 = 0
            walker 0 50 7 0 = 1
            of 0 4 = 1
            of 1 4 = 2
            """);
        CALLS.run("2 RETURN: (2000 at most)", """
            circle 2000 = 100
            walker 0 1 7 0 = 0
            walker 2 1 7 0 = 1
            of 0 4 = 2000
            of 1 4 = 2000
            """);
        CALLS.run("2 RETURN: -9 where it is 2001", """
            circle 1001 = 100
            walker 4 1 7 0 = 0
            of 0 4 = -9
            place 0 2001 = 7
            circle 1143 = 1001
            change 0 0 3 = 4
            change 0 3 6 = 0
            of 0 4 = -9
            place 0 2001 = 7
            """);
        CALLS.run("2 RETURN: in the least CIRCLE", """
            circle 2 = 100
            walker 0 1 1 0 = 0
            walker 3 1 1 0 = 1
            of 0 4 = 2
            of 1 4 = 1
            """);
    }

    private static void meetings() {
        CALLS.run("2 MEETING: the least k (0 ..", """
            walker 0 1 99 0 = 0
            walker 2 1 99 0 = 1
            meeting 0 1 0 = 0
            meeting 0 1 1 = 99
            change 1 2 1 = 99
            meeting 0 1 0 = 1
            meeting 0 1 1 = 0
            """);
        CALLS.run("2 MEETING: (.. 2000)", """
            circle 1999 = 100
            walker 3 1 0 1 = 0
            walker 0 0 1001 0 = 1
            meeting 0 1 0 = 2000
            meeting 1 0 0 = 2000
            meeting 0 1 1 = 1001
            """);
        CALLS.run("2 MEETING: -9 where it is 2001", """
            circle 2000 = 100
            walker 3 1887 0 1 = 0
            walker 0 0 887 0 = 1
            place 0 2001 = 887
            place 1 2001 = 887
            meeting 0 1 0 = -9
            meeting 0 1 1 = -9
            meeting 1 0 0 = -9
            """);
        CALLS.run("2 MEETING at PLACE 0, of two alike", """
            walker 0 3 0 0 = 0
            walker 0 3 0 0 = 1
            meeting 0 1 0 = 0
            meeting 0 1 1 = 0
            """);
    }

    private static void shared() {
        CALLS.run("2 SHARED: how many PLACES are MARKS of both; the least one (-9)", """
            walker 0 1 0 0 = 0
            walker 0 1 10 0 = 1
            shared 0 1 10 0 = 0
            shared 0 1 10 1 = -9
            shared 0 1 11 0 = 1
            shared 0 1 11 1 = 10
            shared 0 1 100 0 = 100
            shared 0 1 100 1 = 0
            shared 0 1 200 0 = 100
            """);
        CALLS.run("2 SHARED: 200 of 200", """
            circle 2000 = 100
            walker 0 1 0 0 = 0
            walker 2 1 199 0 = 1
            shared 0 1 200 0 = 200
            shared 0 1 200 1 = 0
            shared 0 1 201 0 = -6
            shared 0 1 100 0 = 0
            shared 0 1 101 0 = 2
            """);
        CALLS.run("2 SHARED: of all MARKS with the only one, whichever of the two it is", """
            walker 0 1 0 0 = 0
            walker 0 0 99 0 = 1
            shared 0 1 99 0 = 0
            shared 0 1 99 1 = -9
            shared 0 1 100 0 = 1
            shared 0 1 100 1 = 99
            shared 1 0 100 0 = 1
            shared 1 0 100 1 = 99
            """);
        CALLS.run("2 SHARED: round behind 0, not at the same k", """
            walker 0 1 99 0 = 0
            walker 2 1 1 0 = 1
            shared 0 1 1 1 = -9
            shared 0 1 2 0 = 1
            shared 0 1 2 1 = 0
            shared 0 1 3 0 = 3
            """);
    }

    // ---- part 3

    private static void terms() {
        CALLS.run("3 TERMS: with STEP 0 just the first one", """
            walker 0 0 9 0 = 0
            terms 0 -1 = 1
            terms 0 0 = 0
            terms 0 1 = -9
            convergent 0 0 0 = 0
            convergent 0 0 1 = 1
            convergent 0 1 0 = long -6
            """);
        CALLS.run("3 TERMS: till nothing is left, at once with STEP 1", """
            circle 2000 = 100
            walker 0 1 0 0 = 0
            terms 0 -1 = 2
            terms 0 0 = 0
            terms 0 1 = 2000
            terms 0 2 = -9
            convergent 0 1 0 = 1
            convergent 0 1 1 = 2000
            convergent 0 2 0 = long -6
            """);
        CALLS.run("3 TERMS: STEP Q less 1", """
            circle 2000 = 100
            walker 0 1999 0 0 = 0
            terms 0 -1 = 3
            terms 0 1 = 1
            terms 0 2 = 1999
            terms 0 3 = -9
            convergent 0 1 0 = 1
            convergent 0 1 1 = 1
            convergent 0 2 0 = 1999
            convergent 0 2 1 = 2000
            """);
        CALLS.run("3 TERMS: in the least CIRCLE", """
            circle 2 = 100
            walker 0 1 0 0 = 0
            terms 0 -1 = 2
            terms 0 1 = 2
            convergent 0 1 0 = 1
            convergent 0 1 1 = 2
            """);
        CALLS.run("3 CONVERGENT: STEP and Q that have a divisor: the last one is in least terms", """
            walker 0 60 0 0 = 0
            terms 0 -1 = 4
            terms 0 3 = 2
            convergent 0 3 0 = 3
            convergent 0 3 1 = 5
            convergent 0 4 0 = long -6
            """);
    }

    private static void nearest() {
        CALLS.run("3 NEAREST with b (1 ..", """
            walker 0 49 0 0 = 0
            walker 0 51 0 0 = 1
            nearest 0 1 0 = 0
            nearest 0 1 1 = 1
            nearest 1 1 0 = 1
            nearest 1 1 1 = 1
            nearest 0 0 0 = -4
            nearest 0 2 0 = 1
            nearest 0 2 1 = 2
            """);
        CALLS.run("3 NEAREST with b (.. 99)", """
            walker 0 1 0 0 = 0
            walker 0 99 0 0 = 1
            nearest 0 99 0 = 1
            nearest 0 99 1 = 99
            nearest 0 100 0 = -6
            nearest 0 50 0 = 0
            nearest 0 50 1 = 1
            nearest 0 51 0 = 1
            nearest 0 51 1 = 51
            nearest 1 99 0 = 98
            nearest 1 99 1 = 99
            nearest 1 50 0 = 1
            nearest 1 50 1 = 1
            """);
        CALLS.run("3 NEAREST: of several the one with the least k", """
            circle 1000 = 100
            walker 0 250 0 0 = 0
            walker 0 750 0 0 = 1
            walker 0 5 0 0 = 2
            nearest 0 2 0 = 0
            nearest 0 2 1 = 1
            nearest 1 2 0 = 1
            nearest 1 2 1 = 1
            nearest 2 99 0 = 0
            nearest 2 99 1 = 1
            """);
        CALLS.run("3 NEAREST: b one below, at and above what is nearer", """
            walker 0 38 0 0 = 0
            nearest 0 2 0 = 1
            nearest 0 2 1 = 2
            nearest 0 3 0 = 1
            nearest 0 3 1 = 3
            nearest 0 4 1 = 3
            nearest 0 5 0 = 2
            nearest 0 5 1 = 5
            nearest 0 7 1 = 5
            nearest 0 8 0 = 3
            nearest 0 8 1 = 8
            nearest 0 28 0 = 8
            nearest 0 28 1 = 21
            nearest 0 29 0 = 11
            nearest 0 29 1 = 29
            nearest 0 49 1 = 29
            nearest 0 50 0 = 19
            nearest 0 50 1 = 50
            """);
        CALLS.run("3 NEAREST: then the least h", """
            walker 0 50 0 0 = 0
            nearest 0 1 0 = 0
            nearest 0 1 1 = 1
            """);
        CALLS.run("3 NEAREST: in least terms, and what is met exactly stays", """
            walker 0 50 0 0 = 0
            walker 0 75 0 0 = 1
            walker 0 0 0 0 = 2
            nearest 0 99 0 = 1
            nearest 0 99 1 = 2
            nearest 1 4 0 = 3
            nearest 1 99 1 = 4
            nearest 2 99 0 = 0
            nearest 2 99 1 = 1
            """);
    }

    private static void sums() {
        CALLS.run("3 FLOORS of n (0 .. 4000)", """
            circle 2000 = 100
            walker 0 1999 0 0 = 0
            floors 0 -1 = long -4
            floors 0 0 = 0
            floors 0 1 = 0
            floors 0 2 = 0
            floors 0 3 = 1
            floors 0 3999 = 7988005
            floors 0 4000 = 7992002
            floors 0 4001 = long -6
            """);
        CALLS.run("3 RESTS likewise", """
            circle 2000 = 100
            walker 0 1999 0 0 = 0
            rests 0 -1 = long -4
            rests 0 0 = 0
            rests 0 1 = 0
            rests 0 2 = 1999
            rests 0 3999 = 3997999
            rests 0 4000 = 3998000
            rests 0 4001 = long -6
            """);
        CALLS.run("3 FLOORS and RESTS: STEP 0", """
            walker 0 0 50 0 = 0
            floors 0 4000 = 0
            rests 0 4000 = 0
            """);
        CALLS.run("3 RECIPROCAL: (0 with STEP 0)", """
            circle 2000 = 100
            walker 0 0 7 0 = 0
            reciprocal 0 = 0
            change 0 1 1 = 0
            reciprocal 0 = 0
            change 0 1 1999 = 1
            reciprocal 0 = 3994002
            change 0 1 1000 = 1999
            reciprocal 0 = 1998000
            circle 1001 = 2000
            change 0 1 2 = 1000
            circle 3 = -3
            change 0 2 0 = 7
            circle 3 = 1001
            reciprocal 0 = 2
            """);
    }

    // ---- part 4

    private static void walkLetters() {
        CALLS.run("4 letters (72 at most): a WALK of 72", "letters " + "c0012;".repeat(12) + """

            count 2 = 72
            letter 59 = -6
            count 2 = 72
            walk = 12
            count 1 = 12
            count 2 = 0
            letter 59 = 1
            """);
        CALLS.run("4 letters (72 at most): 71, something lacks", "letters " + "c0012;".repeat(11) + """
            c0012
            count 2 = 71
            walk = -1071
            count 1 = 100
            """);
        CALLS.run("4 letters (72 at most): the 73rd is not one of them", "letters " + "c0012;".repeat(11) + """
            s00001
            count 2 = 72
            letter 59 = -6
            walk = -1072
            """);
        CALLS.run("4 STATEMENTS, one or more: none is too few", """
            walk = -1000
            count 2 = 0
            letters x
            walk = -1001
            walk = -1000
            letters c0100;
            walk = 1
            """);
        CALLS.run("4 as many STATEMENTS as 72 letters have", """
            walker 0 0 0 0 = 0
            walker 0 1 0 0 = 1
            walker 0 2 0 0 = 2
            walker 0 3 0 0 = 3
            walker 0 4 0 0 = 4
            letters x4;x0;x0;x0;x0;c0002;c0003;c0004;c0005;c0006;c0007;c0008;c0009;x
            count 2 = 64
            walk = -1064
            letters x4;x0;x0;x0;x0;c0002;c0003;c0004;c0005;c0006;c0007;c0008;c0009;
            walk = 13
            count 0 = 0
            count 1 = 9
            """);
    }

    private static void walkForm() {
        String whole = "c0050;w1000700089;s00006;x0;";
        int[] ends = {6, 18, 25, 28};
        for (int i = 0; i <= whole.length(); i++) {
            int statements = 0;
            boolean ended = false;
            for (int end : ends) {
                statements += end <= i ? 1 : 0;
                ended |= end == i;
            }
            String rows = i == 0 ? "" : "letters " + whole.substring(0, i) + "\n";
            long due = ended ? statements : -1000 - i;
            CALLS.run("4 FAULT: the number of letters, if something lacks", rows + "walk = " + due
                    + "\ncount 1 = " + (ended ? 50 : 100) + "\ncount 0 = " + (ended && (i == 18 || i == 25) ? 1 : 0)
                    + "\ncount 2 = 0\n");
        }
    }

    /** Each letter 0 .. 255 at each place of each STATEMENT: only what the form wants goes on. */
    private static void walkLetterByLetter() {
        for (String statement : new String[] {"c0060;", "w1000700089;", "s00006;", "x0;"}) {
            for (int at = 0; at < statement.length(); at++) {
                char wanted = statement.charAt(at);
                for (int c = 0; c <= 255; c++) {
                    boolean digit = wanted >= '0' && wanted <= '9';
                    boolean first = at == 0 && "cwsx".indexOf(c) >= 0;
                    boolean fits = digit ? c >= '0' && c <= '9' : c == wanted || first;
                    if (!fits) {
                        CALLS.due("4 FAULT of kind 1", statement + " with " + c + " at " + at,
                                walkWith(statement, at, c), -1000 - 6 - at);
                    } else if (digit) {
                        CALLS.due("4 no FAULT of kind 1", statement + " with " + c + " at " + at,
                                walkWith(statement, at, c) <= -2000 || walkWith(statement, at, c) == 2 ? 1 : 0, 1);
                    }
                }
            }
        }
    }

    private static long walkWith(String statement, int at, int c) {
        StepsRoundCircle object = new StepsRoundCircle();
        object.walker(0, 1, 1, 1);
        for (char ahead : "c0070;".toCharArray()) {
            object.letter(ahead);
        }
        for (int i = 0; i < statement.length(); i++) {
            object.letter(i == at ? c : statement.charAt(i));
        }
        int answer = object.walk();
        boolean came = object.count(1) != 100 || object.count(0) != 1 || object.of(0, 1) != 1;
        CALLS.due("4 with a FAULT nothing comes, else all", statement + " with " + c + " at " + at,
                came ? 1 : 0, answer > 0 ? 1 : 0);
        CALLS.due("4 a FAULT is not counted, the letters are no more", statement + " with " + c + " at " + at,
                object.count(2) + object.count(11) + object.count(12) + object.count(13) + object.count(14)
                        + object.count(16), 0);
        return answer;
    }

    private static void walkNumbers() {
        CALLS.run("4 a number out of range: c below 2, above 2000", """
            letters c0002;
            walk = 1
            letters c0001;
            walk = -2000
            letters c0000;
            walk = -2000
            letters c2000;
            walk = 1
            letters c2001;
            walk = -2000
            letters c9999;
            walk = -2000
            count 1 = 2000
            """);
        CALLS.run("4 a number out of range: w KIND above 5", """
            letters w5000000000;
            walk = 1
            letters w6000000000;
            walk = -2000
            letters w9000000000;
            walk = -2000
            count 0 = 1
            """);
        CALLS.run("4 a number out of range: w STEP, START above Q less 1", """
            letters w0009900999;
            walk = 1
            letters w0010000000;
            walk = -2000
            letters w0000001000;
            walk = -2000
            letters w0999900000;
            walk = -2000
            letters w0000099990;
            walk = -2000
            count 0 = 1
            of 0 1 = 99
            of 0 2 = 99
            of 0 3 = 9
            """);
        CALLS.run("4 w: each of its numbers in its own place, the least and the greatest", """
            letters c2000;w5123415678;w0000000000;w5199919999;
            walk = 4
            of 0 0 = 5
            of 0 1 = 1234
            of 0 2 = 1567
            of 0 3 = 8
            of 1 0 = 0
            of 1 1 = 0
            of 1 2 = 0
            of 1 3 = 0
            of 2 0 = 5
            of 2 1 = 1999
            of 2 2 = 1999
            of 2 3 = 9
            letters s21234;s10001;
            walk = 2
            of 0 1 = 1234
            of 1 1 = 1
            of 2 1 = 1234
            of 2 2 = 1999
            """);
        CALLS.run("4 a number out of range: s STEP above Q less 1", """
            walker 0 0 0 0 = 0
            letters s00099;
            walk = 1
            of 0 1 = 99
            letters s00100;
            walk = -2000
            letters s09999;
            walk = -2000
            letters s00000;
            walk = 1
            of 0 1 = 0
            """);
    }

    private static void walkWalkers() {
        CALLS.run("4 no such WALKER: s, x", """
            letters s00000;
            walk = -2000
            letters x0;
            walk = -2000
            walker 0 3 0 0 = 0
            walker 0 4 0 0 = 1
            letters s10007;
            walk = 1
            letters s20007;
            walk = -2000
            letters s90007;
            walk = -2000
            letters x2;
            walk = -2000
            letters x9;
            walk = -2000
            letters x1;
            walk = 1
            count 0 = 1
            """);
        CALLS.run("4 a sixth one", """
            letters w0000000000;w0000100000;w0000200000;w0000300000;w0000400000;
            walk = 5
            letters w0000500000;
            walk = -2000
            letters x0;w0000500000;w0000600000;
            walk = -2015
            letters x0;w0000500000;
            walk = 2
            count 0 = 5
            of 0 1 = 1
            of 4 1 = 5
            """);
        CALLS.run("4 a CIRCLE that can't be: a STEP, a START that isn't less", """
            walker 0 20 30 9 = 0
            letters c0030;
            walk = -2000
            letters c0031;
            walk = 1
            change 0 2 0 = 30
            letters c0020;
            walk = -2000
            letters c0021;
            walk = 1
            count 1 = 21
            """);
    }

    private static void walkBehindOthers() {
        CALLS.run("4 can't be behind all ahead of it in the text: the first STATEMENT that can't", """
            letters c0050;w0004900000;c0049;c0001;
            walk = -2018
            count 0 = 0
            count 1 = 100
            letters c0050;w0004900000;s00048;c0049;
            walk = 4
            count 1 = 49
            """);
        CALLS.run("4 can't be behind all ahead of it: a STEP that the CIRCLE ahead has room for", """
            walker 0 1 1 0 = 0
            letters s00150;
            walk = -2000
            letters c0151;s00150;
            walk = 2
            letters c0152;s00152;
            walk = -2006
            count 1 = 151
            """);
        CALLS.run("4 no such WALKER so far: one that comes behind is none yet", """
            letters s00001;w0000000000;
            walk = -2000
            letters w0000000000;s00001;
            walk = 2
            letters x0;s00002;
            walk = -2003
            letters x0;x0;
            walk = -2003
            count 0 = 1
            of 0 1 = 1
            """);
        CALLS.run("4 x: those behind it have a number less, the first, one between, the last", """
            walker 0 10 11 1 = 0
            walker 1 20 21 2 = 1
            walker 2 30 31 3 = 2
            walker 3 40 41 4 = 3
            walker 4 50 51 5 = 4
            letters x4;
            walk = 1
            of 3 1 = 40
            of 4 1 = -1
            letters x1;
            walk = 1
            of 0 1 = 10
            of 1 0 = 2
            of 1 1 = 30
            of 1 2 = 31
            of 1 3 = 3
            of 2 0 = 3
            of 2 1 = 40
            letters x0;
            walk = 1
            of 0 1 = 30
            of 1 3 = 4
            of 2 0 = -1
            letters x0;x0;
            walk = 2
            count 0 = 0
            letters x0;
            walk = -2000
            """);
        CALLS.run("4 kind 1, else kind 2: a fault of form goes ahead of one that stands earlier", """
            letters c0001;x
            walk = -1007
            letters c0001;x0
            walk = -1008
            letters c0001;;
            walk = -1006
            letters c0001;x0;
            walk = -2000
            """);
    }

    private static void lists() {
        CALLS.run("4 LISTS 0 .. 2", """
            list -1 1 = -1
            list 0 1 = 1
            list 1 2 = 1
            list 2 3 = 1
            list 3 1 = -1
            look 0 0 = 0
            look 0 1 = long -13
            look 1 1 = 0
            look 1 2 = long -13
            look 2 2 = 0
            look 2 3 = long -13
            """);
        CALLS.run("4 rows of ints (40 at most)", """
            list 0 40 = 1
            put 0 39 -2147483648 = 1
            put 0 40 1 = -13
            look 0 39 = -2147483648
            look 0 40 = long -13
            list 0 41 = -6
            look 0 39 = -2147483648
            list 0 39 = 1
            look 0 38 = 0
            look 0 39 = long -13
            list 0 40 = 1
            look 0 39 = 0
            """);
        CALLS.run("4 missing at first", """
            walker 0 1 0 0 = 0
            put 0 0 0 = -11
            put 1 0 0 = -11
            put 2 0 0 = -11
            look 0 0 = long -11
            lays 1 0 0 = -11
            judge 2 0 = -11
            steps 0 0 = -11
            kinds 1 0 = -11
            list 1 0 = 1
            put 0 0 0 = -11
            put 1 0 0 = -13
            put 2 0 0 = -11
            count 11 = 0
            """);
    }

    private static void judged() {
        CALLS.run("4 JUDGED: -9 where none is otherwise, also of an empty LIST", """
            walker 0 7 93 0 = 0
            list 0 0 = 1
            judge 0 0 = -9
            list 0 1 = 1
            judge 0 0 = 0
            put 0 0 93 = 1
            judge 0 0 = -9
            list 0 2 = 1
            put 0 0 93 = 1
            judge 0 0 = -9
            put 0 1 100 = 1
            judge 0 0 = 1
            put 0 1 -100 = 1
            judge 0 0 = 1
            """);
        CALLS.run("4 JUDGED: the first place and the last of 40", """
            walker 4 7 93 0 = 0
            list 0 40 = 1
            lays 0 0 0 = 40
            judge 0 0 = -9
            put 0 39 -1 = 1
            judge 0 0 = 39
            put 0 0 193 = 1
            judge 0 0 = 0
            """);
    }

    private static void stepsAndKindsBy() {
        CALLS.run("4 STEPS BY a LIST (two numbers at least)", """
            walker 0 0 0 0 = 0
            list 0 0 = 1
            steps 0 0 = -3
            kinds 0 0 = -3
            list 0 1 = 1
            steps 0 0 = -3
            kinds 0 0 = -3
            list 0 2 = 1
            steps 0 0 = 1
            steps 0 1 = 0
            kinds 0 0 = 63
            """);
        CALLS.run("4 STEPS BY a LIST (all of them PLACES)", """
            walker 0 99 0 0 = 0
            list 0 2 = 1
            put 0 1 99 = 1
            steps 0 1 = 99
            kinds 0 0 = 51
            put 0 1 100 = 1
            steps 0 1 = -3
            kinds 0 0 = -3
            put 0 1 -1 = 1
            steps 0 1 = -3
            kinds 0 0 = -3
            circle 101 = 100
            put 0 1 100 = 1
            steps 0 1 = 100
            kinds 0 0 = 0
            """);
        CALLS.run("4 STEPS BY a LIST: the last of 40 counts, too", """
            walker 0 7 93 0 = 0
            list 0 40 = 1
            lays 0 0 0 = 40
            steps 0 0 = 1
            steps 0 1 = 7
            put 0 39 65 = 1
            steps 0 0 = 0
            steps 0 1 = -9
            put 0 39 100 = 1
            steps 0 0 = -3
            put 0 39 66 = 1
            steps 0 1 = 7
            """);
        CALLS.run("4 STEPS 0 .. Q less 1: round behind 0", """
            list 0 3 = 1
            put 0 0 1 = 1
            put 0 1 0 = 1
            put 0 2 99 = 1
            steps 0 0 = 1
            steps 0 1 = 99
            """);
        CALLS.run("4 KINDS BY it: else as it is (its START, too)", """
            walker 5 3 10 9 = 0
            list 0 2 = 1
            put 0 0 10 = 1
            put 0 1 13 = 1
            kinds 0 0 = 27
            put 0 0 11 = 1
            kinds 0 0 = 0
            put 0 0 10 = 1
            put 0 1 22 = 1
            kinds 0 0 = 32
            put 0 1 7 = 1
            kinds 0 0 = 4
            change 0 3 0 = 9
            put 0 1 16 = 1
            kinds 0 0 = 8
            """);
    }

    private static void oddsAndLots() {
        CALLS.run("4 ODDS: one MARK of Q, all of Q", """
            circle 2 = 100
            walker 0 1 0 0 = 0
            odds 0 1 0 = 1
            odds 0 1 1 = 2
            odds 0 2 0 = 1
            odds 0 2 1 = 1
            odds 0 200 0 = 1
            odds 0 200 1 = 1
            circle 2000 = 2
            odds 0 1 1 = 2000
            odds 0 200 0 = 1
            odds 0 200 1 = 10
            odds 0 199 0 = 199
            odds 0 199 1 = 2000
            """);
        CALLS.run("4 LOTS: n times (1 .. 50)", """
            walker 0 0 99 0 = 0
            lots 0 1 0 = -4
            lots 1 1 0 = 1
            lots 1 1 1 = 99
            lots 50 1 0 = 1
            lots 50 1 1 = 4950
            lots 51 1 0 = -6
            """);
        // the DRAWS below 200 are PLACES themselves
        CALLS.run("4 LOTS: k (a DRAW below 200), z an int that goes round", """
            circle 200 = 100
            walker 0 1 0 0 = 0
            lots 1 0 1 = LOT_0
            lots 1 2147483647 1 = LOT_MOST
            lots 1 -2147483648 1 = LOT_LEAST
            lots 1 -1 1 = LOT_MINUS
            """.replace("LOT_0", lot(0)).replace("LOT_MOST", lot(2147483647))
                .replace("LOT_LEAST", lot(-2147483648)).replace("LOT_MINUS", lot(-1)));
        CALLS.run("4 LOTS: the seed is not kept, nor what was drawn or marked", """
            walker 0 38 5 0 = 0
            lots 50 12345 1 = 2454
            lots 50 12345 1 = 2454
            change 0 1 0 = 38
            lots 50 12345 0 = 1
            change 0 2 6 = 5
            lengths 0 200 -1 = 1
            lots 50 12345 0 = 1
            lots 50 12345 1 = 300
            """);
    }

    /** The second DRAW, below 200, behind a seed; the first draws the only WALKER. */
    private static String lot(long seed) {
        long z = seed;
        for (int i = 0; i < 2; i++) {
            z = Math.floorMod(z * 1664525 + 1013904223, 1L << 32);
        }
        return String.valueOf(z % (1L << 31) / 256 % 200);
    }

    private static void undone() {
        CALLS.run("4 each that isn't refused counts, also if all stays as it was", """
            walker 0 5 6 7 = 0
            change 0 1 5 = 5
            count 3 = 1
            change 0 1 100 = -6
            change 0 1 -1 = -4
            change 0 4 0 = -2
            change 1 1 0 = -1
            count 3 = 1
            undo = 0
            of 0 1 = 5
            undo = -3
            """);
        for (int made = 15; made <= 18; made++) {
            StringBuilder rows = new StringBuilder("walker 0 0 0 0 = 0\n");
            for (int i = 1; i <= made; i++) {
                rows.append("change 0 2 ").append(i).append(" = ").append(i - 1).append('\n');
            }
            int can = Math.min(made, 16);
            rows.append("count 3 = ").append(can).append('\n');
            for (int i = can - 1; i >= 0; i--) {
                rows.append("undo = ").append(i).append('\n');
                rows.append("of 0 2 = ").append(made - can + i).append('\n');
            }
            rows.append("undo = -3\nof 0 2 = ").append(made - can).append('\n');
            CALLS.run("4 the latest first, 16 at most (older ones no more): " + made, rows.toString());
        }
        CALLS.run("4 UNDONE: of each WALKER each of its four, the latest first", """
            walker 0 10 11 1 = 0
            walker 1 20 21 2 = 1
            walker 2 30 31 3 = 2
            change 2 0 5 = 2
            change 0 3 9 = 1
            change 1 1 99 = 20
            change 2 2 0 = 31
            change 1 1 98 = 99
            undo = 4
            of 1 1 = 99
            of 2 2 = 0
            undo = 3
            of 2 2 = 31
            of 1 1 = 99
            undo = 2
            of 1 1 = 20
            of 0 3 = 9
            undo = 1
            of 0 3 = 1
            of 2 0 = 5
            undo = 0
            of 2 0 = 2
            undo = -3
            """);
        leavesNone("walker 0 0 0 0 = 1", "walker 0 0 0 10 = -6");
        leavesNone("drop = 0", null);
        leavesNone("circle 100 = 100", "circle 5 = -3");
        leavesNone("circle 101 = 100", "circle 2001 = -6");
        leavesNone("letters c0100;\nwalk = 1", "letters c0005;\nwalk = -2000");
        leavesNone("letters c0100;\nwalk = 1", "walk = -1000");
        leavesNone("image = 1\ncount 3 = 2\non = 1", "on = -3");
    }

    private static void leavesNone(String call, String refused) {
        CALLS.run("4 leave none, where they are not refused: " + call, """
            walker 0 5 6 7 = 0
            change 0 1 4 = 5
            change 0 1 3 = 4
            """ + (refused == null ? "" : refused + "\n") + "count 3 = 2\n" + call + """

            count 3 = 0
            undo = -3
            """);
    }

    private static void image() {
        CALLS.run("4 ON without an IMAGE", """
            on = -3
            walker 0 1 1 1 = 0
            on = -3
            count 0 = 1
            count 13 = 2
            image = 1
            on = 1
            """);
        CALLS.run("4 THE IMAGE of no WALKERS, and of five", """
            image = 0
            walker 0 1 1 1 = 0
            on = 0
            of 0 0 = -1
            walker 1 11 12 1 = 0
            walker 2 21 22 2 = 1
            walker 3 31 32 3 = 2
            walker 4 41 42 4 = 3
            walker 5 51 52 5 = 4
            circle 2000 = 100
            image = 5
            letters x0;x0;x0;x0;x0;c0002;
            walk = 6
            on = 5
            count 1 = 2000
            of 0 0 = 1
            of 0 1 = 11
            of 4 0 = 5
            of 4 1 = 51
            of 4 2 = 52
            of 4 3 = 5
            walker 0 0 0 0 = -6
            """);
        CALLS.run("4 THE IMAGE: WALKERS with all that is theirs, changed since or not", """
            walker 5 98 97 9 = 0
            walker 4 96 95 8 = 1
            image = 2
            change 0 0 1 = 5
            change 0 1 2 = 98
            change 0 2 3 = 97
            change 0 3 4 = 9
            change 1 3 5 = 8
            on = 2
            of 0 0 = 5
            of 0 1 = 98
            of 0 2 = 97
            of 0 3 = 9
            of 1 0 = 4
            of 1 3 = 8
            change 0 0 0 = 5
            on = 2
            of 0 0 = 5
            """);
    }

    private static void besideTheImage() {
        CALLS.run("4 THE IMAGE: how many REFUSALS there were stays", """
            on = -3
            image = 0
            drop = -3
            of 0 0 = -1
            on = 0
            count 13 = 2
            count 11 = 1
            """);
        CALLS.run("4 (letters, LISTS stay)", """
            letters c00
            list 0 2 = 1
            put 0 0 5 = 1
            image = 0
            letters 50;
            put 0 0 6 = 1
            list 1 40 = 1
            on = 0
            count 2 = 6
            look 0 0 = 6
            look 1 39 = 0
            look 2 0 = long -11
            walk = 1
            count 1 = 50
            on = 0
            count 1 = 100
            count 2 = 0
            """);
        CALLS.run("4 an IMAGE anew in place of the one before", """
            walker 0 1 0 0 = 0
            image = 1
            walker 0 2 0 0 = 1
            image = 2
            drop = 1
            drop = 0
            on = 2
            of 1 1 = 2
            """);
    }

    // ---- fractions and refusals

    private static void fractions() {
        CALLS.run("fractions are told in least terms", """
            walker 0 25 0 0 = 0
            odds 0 2 0 = 1
            odds 0 2 1 = 50
            odds 0 4 0 = 1
            odds 0 4 1 = 25
            off 0 4 0 = 1
            off 0 4 1 = 4
            convergent 0 1 0 = 1
            convergent 0 1 1 = 4
            nearest 0 99 0 = 1
            nearest 0 99 1 = 4
            """);
        CALLS.run("0 as 0 by 1", """
            walker 0 38 0 0 = 0
            walker 0 0 0 0 = 1
            convergent 0 0 0 = 0
            convergent 0 0 1 = 1
            convergent 1 0 0 = 0
            convergent 1 0 1 = 1
            nearest 1 99 0 = 0
            nearest 1 99 1 = 1
            """);
        CALLS.run("a whole one as 1 by 1", """
            walker 0 0 0 0 = 0
            off 0 200 0 = 1
            off 0 200 1 = 1
            circle 2 = 100
            change 0 1 1 = 0
            odds 0 2 0 = 1
            odds 0 2 1 = 1
            """);
    }

    private static void refusals() {
        CALLS.run("of longs 4000000000000000000 less them", """
            off 0 1 0 = 4000000000000000001
            walker 0 1 0 0 = 0
            off 0 1 2 = 4000000000000000002
            off 0 0 0 = 4000000000000000004
            off 0 201 0 = 4000000000000000006
            odds 1 1 0 = 4000000000000000001
            odds 0 1 2 = 4000000000000000002
            odds 0 0 0 = 4000000000000000004
            odds 0 201 0 = 4000000000000000006
            convergent 1 0 0 = 4000000000000000001
            convergent 0 0 2 = 4000000000000000002
            convergent 0 -1 0 = 4000000000000000004
            convergent 0 2 0 = 4000000000000000006
            floors 1 0 = 4000000000000000001
            floors 0 -1 = 4000000000000000004
            floors 0 4001 = 4000000000000000006
            rests 1 0 = 4000000000000000001
            rests 0 -1 = 4000000000000000004
            rests 0 4001 = 4000000000000000006
            reciprocal 1 = 4000000000000000001
            look 3 0 = 4000000000000000001
            count 11 = 7
            count 12 = 3
            count 14 = 5
            count 16 = 5
            """);
        CALLS.run("(-11, -13 likewise), not counted", """
            look 0 0 = 4000000000000000011
            list 0 1 = 1
            look 0 1 = 4000000000000000013
            look 0 -1 = 4000000000000000013
            count 11 = 0
            count 13 = 0
            """);
        CALLS.run("not counted: -11, -13, -14, -16, -9, FAULTS", """
            walker 0 1 0 0 = 0
            put 0 0 0 = -11
            list 0 1 = 1
            put 0 1 0 = -13
            list 0 -1 = -14
            taken 0 1 = -16
            lengths 0 1 1 = -9
            split 0 200 0 = -9
            terms 0 2 = -9
            count 17 = -9
            walk = -1000
            letters x1;
            walk = -2000
            count 11 = 0
            count 12 = 0
            count 13 = 0
            count 14 = 0
            count 15 = 0
            count 16 = 0
            """);
    }
}
