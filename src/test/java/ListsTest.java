/** Promises 30 to 36. */
public final class ListsTest {
    private static final Calls CALLS = new Calls("ListsTest");

    /** PLACES of WALKER 0: 4 7 0 3 6 9 2 .. */
    private static final String TEN = """
        circle 10 = 100
        walker 0 3 4 0 = 0
        """;

    public static void main(String[] args) {
        list();
        put();
        look();
        lays();
        judge();
        steps();
        kinds();
        CALLS.end();
    }

    private static void list() {
        CALLS.run("30 list: all 0, anew each time", """
            list 0 2 = 1
            put 0 1 7 = 1
            list 0 3 = 1
            look 0 0 = 0
            look 0 1 = 0
            look 0 2 = 0
            look 0 3 = long -13
            list 0 0 = 1
            look 0 0 = long -13
            list 2 40 = 1
            look 2 39 = 0
            look 2 40 = long -13
            look 1 0 = long -11
            """);
        CALLS.run("30 list: REFUSALS in their order", """
            list 3 41 = -1
            list -1 -1 = -1
            list 0 41 = -6
            list 0 2147483647 = -6
            list 0 -1 = -14
            list 0 -2147483648 = -14
            look 0 0 = long -11
            list 1 1 = 1
            put 1 0 5 = 1
            list 1 41 = -6
            list 1 -1 = -14
            look 1 0 = 5
            count 11 = 2
            count 14 = 0
            count 16 = 3
            """);
    }

    private static void put() {
        CALLS.run("31 put: any int", """
            list 1 3 = 1
            put 1 0 2147483647 = 1
            put 1 2 -2147483648 = 1
            look 1 0 = 2147483647
            look 1 1 = 0
            look 1 2 = -2147483648
            """);
        CALLS.run("31 put: REFUSALS in their order, only -1 is counted", """
            put 3 0 0 = -1
            put -1 9 0 = -1
            put 0 -1 0 = -11
            list 0 2 = 1
            put 0 -1 0 = -13
            put 0 2 0 = -13
            put 0 -2147483648 0 = -13
            put 0 1 1 = 1
            count 11 = 2
            count 13 = 0
            """);
    }

    private static void look() {
        CALLS.run("32 look: REFUSALS in their order, only -1 is counted", """
            look 3 0 = long -1
            look -1 9 = long -1
            look 0 -1 = 4000000000000000011
            list 0 2 = 1
            look 0 -1 = 4000000000000000013
            look 0 2 = 4000000000000000013
            look 0 1 = 0
            look 3 0 = 4000000000000000001
            count 11 = 3
            count 13 = 0
            """);
    }

    private static void lays() {
        CALLS.run("33 lays: from place i on, the 0th PLACE first", TEN + """
            list 0 5 = 1
            put 0 0 77 = 1
            put 0 1 88 = 1
            lays 0 2 0 = 3
            look 0 0 = 77
            look 0 1 = 88
            look 0 2 = 4
            look 0 3 = 7
            look 0 4 = 0
            lays 0 0 0 = 5
            look 0 0 = 4
            look 0 1 = 7
            look 0 2 = 0
            look 0 4 = 6
            lays 0 4 0 = 1
            look 0 4 = 4
            list 1 40 = 1
            lays 1 0 0 = 40
            look 1 39 = 1
            """);
        CALLS.run("33 lays: REFUSALS in their order", TEN + """
            lays 3 0 0 = -1
            lays -1 0 0 = -1
            lays 0 0 1 = -1
            lays 0 0 -1 = -1
            lays 0 -1 0 = -11
            list 0 3 = 1
            lays 0 -1 1 = -1
            lays 0 -1 0 = -13
            lays 0 3 0 = -13
            lays 0 4 0 = -13
            list 0 0 = 1
            lays 0 0 0 = -13
            count 11 = 5
            count 13 = 0
            """);
    }

    private static void judge() {
        CALLS.run("34 judge", TEN + """
            list 0 6 = 1
            lays 0 0 0 = 6
            judge 0 0 = -9
            put 0 5 8 = 1
            judge 0 0 = 5
            put 0 2 10 = 1
            judge 0 0 = 2
            put 0 0 14 = 1
            judge 0 0 = 0
            list 0 0 = 1
            judge 0 0 = -9
            list 0 1 = 1
            judge 0 0 = 0
            put 0 0 4 = 1
            judge 0 0 = -9
            change 0 0 2 = 0
            list 1 40 = 1
            lays 1 0 0 = 40
            judge 1 0 = -9
            change 0 0 0 = 2
            judge 1 0 = 1
            """);
        CALLS.run("34 judge: REFUSALS in their order", TEN + """
            judge 3 0 = -1
            judge -1 0 = -1
            judge 0 1 = -1
            judge 0 -1 = -1
            judge 0 0 = -11
            count 11 = 4
            """);
    }

    private static void steps() {
        CALLS.run("35 steps", TEN + """
            list 0 4 = 1
            lays 0 0 0 = 4
            steps 0 0 = 1
            steps 0 1 = 3
            put 0 3 4 = 1
            steps 0 0 = 0
            steps 0 1 = -9
            list 0 2 = 1
            steps 0 0 = 1
            steps 0 1 = 0
            put 0 0 9 = 1
            put 0 1 8 = 1
            steps 0 0 = 1
            steps 0 1 = 9
            """);
        CALLS.run("35 steps: two that come back to where they were", TEN + """
            list 0 3 = 1
            put 0 1 5 = 1
            steps 0 0 = 1
            steps 0 1 = 5
            put 0 2 5 = 1
            steps 0 0 = 0
            """);
        CALLS.run("35 steps: REFUSALS in their order", """
            steps 3 2 = -1
            steps -1 0 = -1
            steps 0 2 = -2
            steps 0 -1 = -2
            steps 0 0 = -11
            list 0 0 = 1
            steps 0 2 = -2
            steps 0 0 = -3
            list 0 1 = 1
            steps 0 1 = -3
            list 0 2 = 1
            put 0 1 100 = 1
            steps 0 0 = -3
            put 0 1 99 = 1
            steps 0 1 = 99
            put 0 0 -1 = 1
            steps 0 1 = -3
            count 11 = 2
            count 12 = 3
            count 13 = 4
            """);
    }

    private static void kinds() {
        CALLS.run("36 kinds: by one PLACE more each", TEN + """
            change 0 3 2 = 0
            list 0 2 = 1
            put 0 0 4 = 1
            put 0 1 7 = 1
            kinds 0 0 = 27
            list 0 3 = 1
            lays 0 0 0 = 3
            kinds 0 0 = 9
            list 0 4 = 1
            lays 0 0 0 = 4
            kinds 0 0 = 1
            change 0 0 1 = 0
            lays 0 0 0 = 4
            kinds 0 0 = 2
            change 0 0 2 = 1
            lays 0 0 0 = 4
            kinds 0 0 = 4
            change 0 0 3 = 2
            lays 0 0 0 = 4
            kinds 0 0 = 8
            change 0 0 4 = 3
            lays 0 0 0 = 4
            kinds 0 0 = 16
            change 0 0 5 = 4
            lays 0 0 0 = 4
            kinds 0 0 = 32
            change 0 3 0 = 2
            kinds 0 0 = 0
            lays 0 0 0 = 4
            kinds 0 0 = 34
            change 0 2 3 = 4
            kinds 0 0 = 0
            """);
        CALLS.run("36 kinds: STEP 0 and FIGURE 0 leave all KINDS alike", """
            walker 0 0 0 0 = 0
            list 2 40 = 1
            kinds 2 0 = 63
            """);
        CALLS.run("36 kinds: REFUSALS in their order", TEN + """
            kinds 3 0 = -1
            kinds -1 0 = -1
            kinds 0 1 = -1
            kinds 0 -1 = -1
            kinds 0 0 = -11
            list 0 1 = 1
            kinds 0 0 = -3
            kinds 0 1 = -1
            list 0 2 = 1
            put 0 1 10 = 1
            kinds 0 0 = -3
            put 0 1 -1 = 1
            kinds 0 0 = -3
            put 0 1 9 = 1
            kinds 0 0 = 0
            count 11 = 5
            count 13 = 3
            """);
    }
}
