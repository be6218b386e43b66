/** Promises 11 to 22. The circles are small, so that the answers can be found by hand. */
public final class GapsTest {
    private static final Calls CALLS = new Calls("GapsTest");

    /** PLACES 3 8 1 6 11 4 9 2 7 0 5 10. */
    private static final String TWELVE = """
        circle 12 = 100
        walker 0 5 3 0 = 0
        """;
    /** PLACES 1 4 1 4 1 4 .. */
    private static final String ALIKE = """
        circle 12 = 100
        walker 1 3 1 0 = 0
        """;

    public static void main(String[] args) {
        marks();
        lengths();
        many();
        seen();
        split();
        closest();
        off();
        nearer();
        crowded();
        meeting();
        shared();
        odds();
        refusalsBehind("marks", 3, "");
        refusalsBehind("split", 2, "");
        refusalsBehind("closest", 2, "");
        refusalsBehind("off", 2, "long ");
        refusalsBehind("odds", 2, "long ");
        refusalsOfNth("lengths", -1);
        refusalsOfNth("many", 0);
        refusalsOfNth("seen", 0);
        refusalsOfNth("nearer", -1);
        CALLS.end();
    }

    private static void marks() {
        CALLS.run("11 marks", TWELVE + """
            marks 0 5 0 = 5
            marks 0 5 1 = 1
            marks 0 5 2 = 11
            marks 0 1 0 = 1
            marks 0 1 1 = 3
            marks 0 1 2 = 3
            marks 0 12 0 = 12
            marks 0 200 0 = 12
            marks 0 200 1 = 0
            marks 0 200 2 = 11
            """);
        CALLS.run("11 marks: alike PLACES are one MARK", ALIKE + """
            marks 0 5 0 = 2
            marks 0 5 1 = 1
            marks 0 5 2 = 4
            """);
        CALLS.run("11 marks: 200 unlike ones", """
            circle 2000 = 100
            walker 2 7 1999 0 = 0
            marks 0 200 0 = 200
            marks 0 200 1 = 606
            marks 0 200 2 = 1999
            """);
    }

    private static void lengths() {
        CALLS.run("12 lengths: the least first", TWELVE + """
            lengths 0 5 -1 = 2
            lengths 0 5 0 = 2
            lengths 0 5 1 = 3
            lengths 0 5 2 = -9
            lengths 0 5 2147483647 = -9
            lengths 0 1 -1 = 1
            lengths 0 1 0 = 12
            lengths 0 1 1 = -9
            lengths 0 12 -1 = 1
            lengths 0 12 0 = 1
            lengths 0 2 0 = 5
            lengths 0 2 1 = 7
            """);
        CALLS.run("12 lengths: alike PLACES leave no GAP of 0", ALIKE + """
            lengths 0 1 0 = 12
            lengths 0 3 -1 = 2
            lengths 0 3 0 = 3
            lengths 0 3 1 = 9
            """);
    }

    private static void many() {
        CALLS.run("13 many", TWELVE + """
            many 0 5 0 = 3
            many 0 5 1 = 2
            many 0 5 2 = -9
            many 0 5 2147483647 = -9
            many 0 1 0 = 1
            many 0 12 0 = 12
            many 0 200 0 = 12
            many 0 2 0 = 1
            many 0 2 1 = 1
            """);
        CALLS.run("13 many: one MARK, at 0", """
            walker 0 5 0 0 = 0
            many 0 1 0 = 1
            many 0 1 1 = -9
            """);
    }

    private static void seen() {
        // MARKS 0 3 5 10, GAPS 3 2 5 2
        CALLS.run("14 seen: in the order in which they come first", """
            circle 12 = 100
            walker 0 5 0 0 = 0
            seen 0 4 0 = 3
            seen 0 4 1 = 2
            seen 0 4 2 = 5
            seen 0 4 3 = -9
            seen 0 4 2147483647 = -9
            lengths 0 4 0 = 2
            lengths 0 4 1 = 3
            lengths 0 4 2 = 5
            many 0 4 0 = 2
            many 0 4 1 = 1
            many 0 4 2 = 1
            seen 0 1 0 = 12
            seen 0 1 1 = -9
            """);
        // GAPS 14 14 10 14 24 14 10: those seen again do not push the third one on
        CALLS.run("14 seen: each LENGTH once", """
            walker 0 38 5 0 = 0
            seen 0 7 0 = 14
            seen 0 7 1 = 10
            seen 0 7 2 = 24
            seen 0 7 3 = -9
            """);
        // MARKS 3 8: the GAP from 8 goes round and is the second one
        CALLS.run("14 seen: from the least MARK on, not from 0", TWELVE + """
            seen 0 2 0 = 5
            seen 0 2 1 = 7
            seen 0 2 2 = -9
            """);
    }

    private static void split() {
        CALLS.run("15 split", TWELVE + """
            split 0 5 0 = 3
            split 0 5 1 = 1
            split 0 1 0 = 3
            split 0 1 1 = 5
            split 0 7 0 = 1
            split 0 7 1 = 1
            split 0 12 0 = -9
            split 0 12 1 = -9
            """);
        CALLS.run("15 split: the GAP that goes round, PLACE behind 0", TWELVE + """
            split 0 2 0 = 8
            split 0 2 1 = 5
            """);
        CALLS.run("15 split: the GAP that goes round, PLACE ahead of 0", TWELVE + """
            split 0 4 0 = 8
            split 0 4 1 = 3
            """);
        CALLS.run("15 split: at a MARK", ALIKE + """
            split 0 1 0 = 1
            split 0 1 1 = 3
            split 0 2 0 = -9
            split 0 5 1 = -9
            split 0 200 0 = -9
            """);
    }

    private static void closest() {
        CALLS.run("16 closest: of several the least MARK", TWELVE + """
            closest 0 5 0 = 2
            closest 0 5 1 = 1
            closest 0 2 0 = 5
            closest 0 2 1 = 3
            closest 0 1 0 = 12
            closest 0 1 1 = 3
            closest 0 12 0 = 1
            closest 0 12 1 = 0
            closest 0 200 1 = 0
            """);
        // MARKS 1 11: the GAP from 11 goes round and is the least
        CALLS.run("16 closest: the GAP that goes round", """
            circle 12 = 100
            walker 0 10 1 0 = 0
            closest 0 2 0 = 2
            closest 0 2 1 = 11
            """);
    }

    private static void off() {
        CALLS.run("17 off", TWELVE + """
            off 0 5 0 = 3
            off 0 5 1 = 20
            off 0 1 0 = 3
            off 0 1 1 = 4
            off 0 12 0 = 1
            off 0 12 1 = 12
            """);
        CALLS.run("17 off: alike PLACES each", ALIKE + """
            off 0 5 0 = 2
            off 0 5 1 = 3
            """);
        CALLS.run("17 off: m(i) / Q less i / n can be the greatest", """
            circle 12 = 100
            walker 0 0 11 0 = 0
            off 0 3 0 = 11
            off 0 3 1 = 12
            """);
        CALLS.run("17 off: many of many", """
            circle 2000 = 100
            walker 0 0 1999 0 = 0
            walker 0 0 0 0 = 1
            off 0 200 0 = 1999
            off 0 200 1 = 2000
            off 1 200 0 = 1
            off 1 200 1 = 1
            """);
    }

    private static void nearer() {
        CALLS.run("18 nearer", TWELVE + """
            nearer 0 12 -1 = 3
            nearer 0 12 0 = 1
            nearer 0 12 1 = 2
            nearer 0 12 2 = 5
            nearer 0 12 3 = -9
            nearer 0 13 -1 = 4
            nearer 0 13 3 = 12
            nearer 0 200 -1 = 4
            nearer 0 200 4 = -9
            nearer 0 200 2147483647 = -9
            nearer 0 1 -1 = 0
            nearer 0 1 0 = -9
            nearer 0 2 -1 = 1
            nearer 0 2 0 = 1
            nearer 0 5 -1 = 2
            nearer 0 6 -1 = 3
            """);
        CALLS.run("18 nearer: as far is not nearer", """
            circle 2 = 100
            walker 0 1 0 0 = 0
            walker 0 0 1 0 = 1
            nearer 0 2 -1 = 1
            nearer 0 200 -1 = 2
            nearer 0 200 1 = 2
            nearer 1 200 -1 = 1
            nearer 1 200 0 = 1
            """);
    }

    private static void crowded() {
        CALLS.run("19 crowded: PLACES 3 8 1 6 11", TWELVE + """
            crowded 0 5 3 0 = 0
            crowded 0 5 3 1 = 2
            crowded 0 5 2 0 = 1
            crowded 0 5 2 1 = 3
            crowded 0 5 1 0 = 0
            crowded 0 5 1 1 = 5
            crowded 0 5 9 0 = 1
            crowded 0 5 9 1 = 1
            crowded 0 1 9 0 = 3
            crowded 0 1 9 1 = 1
            crowded 0 200 1 1 = 200
            crowded 0 12 3 0 = 0
            crowded 0 12 3 1 = 4
            """);
        CALLS.run("19 crowded: alike PLACES each", ALIKE + """
            crowded 0 5 3 0 = 1
            crowded 0 5 3 1 = 5
            crowded 0 5 2 0 = 1
            crowded 0 5 2 1 = 3
            crowded 0 4 2 0 = 0
            crowded 0 4 2 1 = 2
            """);
        CALLS.run("19 crowded: REFUSALS in their order", """
            crowded 0 0 0 9 = -1
            walker 0 1 0 0 = 0
            crowded -1 1 1 0 = -1
            crowded 1 1 1 0 = -1
            crowded 0 0 10 9 = -4
            crowded 0 201 0 9 = -4
            crowded 0 201 9 2 = -6
            crowded 0 200 10 2 = -6
            crowded 0 200 9 2 = -2
            crowded 0 200 9 -1 = -2
            crowded 0 200 9 1 = 24
            count 11 = 3
            count 12 = 2
            count 14 = 2
            count 16 = 2
            """);
    }

    private static void meeting() {
        CALLS.run("20 meeting", TWELVE + """
            walker 2 1 9 0 = 1
            walker 0 0 3 0 = 2
            meeting 0 1 0 = 1
            meeting 0 1 1 = 8
            meeting 1 0 0 = 1
            meeting 0 2 0 = 0
            meeting 0 2 1 = 3
            """);
        CALLS.run("20 meeting: never", """
            walker 0 2 0 0 = 0
            walker 0 2 1 0 = 1
            meeting 0 1 0 = -9
            meeting 0 1 1 = -9
            """);
        CALLS.run("20 meeting: 2000 is the last k", """
            circle 1999 = 100
            walker 3 1 0 1 = 0
            walker 0 0 1001 0 = 1
            walker 0 0 1004 0 = 2
            meeting 0 1 0 = 2000
            meeting 0 1 1 = 1001
            meeting 0 2 0 = -9
            meeting 0 2 1 = -9
            place 0 2002 = 1004
            """);
        CALLS.run("20 meeting: REFUSALS in their order", """
            meeting 0 0 2 = -1
            walker 0 1 0 0 = 0
            meeting 0 0 2 = -1
            meeting 0 0 0 = -1
            meeting 0 1 0 = -1
            meeting 1 0 0 = -1
            meeting -1 0 0 = -1
            walker 0 1 0 0 = 1
            meeting 0 1 2 = -2
            meeting 0 1 -1 = -2
            count 11 = 6
            count 12 = 2
            """);
    }

    private static void shared() {
        // the other's PLACES: 2 6 10 2 6 10 ..
        CALLS.run("21 shared", TWELVE + """
            walker 0 4 2 0 = 1
            shared 0 1 1 0 = 0
            shared 0 1 1 1 = -9
            shared 0 1 4 0 = 1
            shared 0 1 4 1 = 6
            shared 0 1 8 0 = 2
            shared 0 1 8 1 = 2
            shared 1 0 8 0 = 2
            shared 1 0 8 1 = 2
            shared 0 1 12 0 = 3
            shared 0 1 200 1 = 2
            """);
        CALLS.run("21 shared: PLACE 0 too", """
            walker 0 1 0 0 = 0
            walker 0 0 0 0 = 1
            shared 0 1 7 0 = 1
            shared 0 1 7 1 = 0
            """);
        CALLS.run("21 shared: REFUSALS in their order", """
            walker 0 1 0 0 = 0
            walker 0 1 0 0 = 1
            shared 0 0 0 2 = -1
            shared 0 2 0 2 = -1
            shared 2 0 0 2 = -1
            shared -1 0 201 2 = -1
            shared 0 1 0 2 = -4
            shared 0 1 201 2 = -6
            shared 0 1 200 2 = -2
            shared 0 1 1 -1 = -2
            shared 0 1 200 0 = 100
            count 11 = 4
            count 12 = 2
            count 14 = 1
            count 16 = 1
            """);
    }

    private static void odds() {
        CALLS.run("22 odds", ALIKE + """
            odds 0 5 0 = 1
            odds 0 5 1 = 6
            odds 0 1 0 = 1
            odds 0 1 1 = 12
            """);
        CALLS.run("22 odds: in least terms", TWELVE + """
            odds 0 5 0 = 5
            odds 0 5 1 = 12
            odds 0 8 0 = 2
            odds 0 8 1 = 3
            odds 0 200 0 = 1
            odds 0 200 1 = 1
            """);
    }

    /** Refused by -1, -4, -6 above 200, -2, in this order; whats are the right ones. */
    private static void refusalsBehind(String name, int whats, String told) {
        String rows = """
            NAME 0 0 WHATS = TOLD-1
            walker 0 1 0 0 = 0
            NAME 1 0 WHATS = TOLD-1
            NAME -1 1 0 = TOLD-1
            NAME 0 0 WHATS = TOLD-4
            NAME 0 -2147483648 0 = TOLD-4
            NAME 0 201 WHATS = TOLD-6
            NAME 0 2147483647 0 = TOLD-6
            NAME 0 200 WHATS = TOLD-2
            NAME 0 1 -1 = TOLD-2
            count 11 = 3
            count 12 = 2
            count 14 = 2
            count 16 = 2
            """;
        CALLS.run(name + ": REFUSALS in their order", rows.replace("NAME", name)
                .replace("WHATS", String.valueOf(whats)).replace("TOLD", told));
    }

    /** Refused by -1, -4 with n or j, -6 above 200, in this order. */
    private static void refusalsOfNth(String name, int leastJ) {
        String rows = """
            NAME 0 0 0 = -1
            walker 0 1 0 0 = 0
            NAME 1 0 0 = -1
            NAME -1 201 0 = -1
            NAME 0 0 0 = -4
            NAME 0 1 UNDER = -4
            NAME 0 201 UNDER = -4
            NAME 0 201 0 = -6
            NAME 0 2147483647 0 = -6
            count 11 = 3
            count 14 = 3
            count 16 = 2
            """;
        CALLS.run(name + ": REFUSALS in their order", rows.replace("NAME", name)
                .replace("UNDER", String.valueOf(leastJ - 1)));
    }
}
