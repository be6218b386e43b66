/** Promises 23 to 29. */
public final class FractionsAndSumsTest {
    private static final Calls CALLS = new Calls("FractionsAndSumsTest");

    public static void main(String[] args) {
        terms();
        convergent();
        nearest();
        floors();
        rests();
        reciprocal();
        lots();
        refusalsOfSums("floors");
        refusalsOfSums("rests");
        CALLS.end();
    }

    private static void terms() {
        CALLS.run("23 terms of 38 / 100", """
            walker 0 38 5 0 = 0
            terms 0 -1 = 7
            terms 0 0 = 0
            terms 0 1 = 2
            terms 0 2 = 1
            terms 0 3 = 1
            terms 0 4 = 1
            terms 0 5 = 2
            terms 0 6 = 2
            terms 0 7 = -9
            terms 0 2147483647 = -9
            """);
        CALLS.run("23 terms: STEP 0, 1, Q less 1; KIND, START and FIGURE do not matter", """
            walker 0 0 0 0 = 0
            walker 5 1 7 9 = 1
            walker 2 99 9 0 = 2
            terms 0 -1 = 1
            terms 0 0 = 0
            terms 0 1 = -9
            terms 1 -1 = 2
            terms 1 0 = 0
            terms 1 1 = 100
            terms 1 2 = -9
            terms 2 -1 = 3
            terms 2 1 = 1
            terms 2 2 = 99
            """);
        // two that follow one another in Fibonacci's row have the most TERMS
        CALLS.run("23 terms: the most there can be", """
            circle 1597 = 100
            walker 0 987 0 0 = 0
            terms 0 -1 = 16
            terms 0 14 = 1
            terms 0 15 = 2
            terms 0 16 = -9
            """);
        CALLS.run("23 terms: REFUSALS in their order", """
            terms 0 -2 = -1
            walker 0 38 5 0 = 0
            terms 1 0 = -1
            terms -1 0 = -1
            terms 0 -2 = -4
            terms 0 -2147483648 = -4
            count 11 = 3
            count 14 = 2
            """);
    }

    private static void convergent() {
        CALLS.run("24 convergent of 38 / 100", """
            walker 0 38 5 0 = 0
            convergent 0 0 0 = 0
            convergent 0 0 1 = 1
            convergent 0 1 0 = 1
            convergent 0 1 1 = 2
            convergent 0 2 0 = 1
            convergent 0 2 1 = 3
            convergent 0 3 0 = 2
            convergent 0 3 1 = 5
            convergent 0 4 0 = 3
            convergent 0 4 1 = 8
            convergent 0 5 0 = 8
            convergent 0 5 1 = 21
            convergent 0 6 0 = 19
            convergent 0 6 1 = 50
            convergent 0 7 0 = long -6
            """);
        CALLS.run("24 convergent: the most TERMS, STEP 0", """
            circle 1597 = 100
            walker 0 987 0 0 = 0
            walker 0 0 0 0 = 1
            convergent 0 15 0 = 987
            convergent 0 15 1 = 1597
            convergent 1 0 0 = 0
            convergent 1 0 1 = 1
            convergent 1 1 0 = long -6
            """);
        CALLS.run("24 convergent: REFUSALS in their order", """
            convergent 0 -1 2 = long -1
            walker 0 1 0 0 = 0
            convergent 1 0 0 = long -1
            convergent -1 0 0 = long -1
            convergent 0 -1 2 = long -4
            convergent 0 2 2 = long -6
            convergent 0 2147483647 0 = long -6
            convergent 0 1 2 = long -2
            convergent 0 1 -1 = long -2
            count 11 = 3
            count 12 = 2
            count 14 = 1
            count 16 = 2
            """);
    }

    private static void nearest() {
        CALLS.run("25 nearest to 38 / 100", """
            walker 0 38 5 0 = 0
            nearest 0 1 0 = 0
            nearest 0 1 1 = 1
            nearest 0 2 0 = 1
            nearest 0 2 1 = 2
            nearest 0 3 0 = 1
            nearest 0 3 1 = 3
            nearest 0 5 0 = 2
            nearest 0 5 1 = 5
            nearest 0 8 0 = 3
            nearest 0 8 1 = 8
            nearest 0 12 1 = 8
            nearest 0 13 0 = 5
            nearest 0 13 1 = 13
            nearest 0 21 0 = 8
            nearest 0 21 1 = 21
            nearest 0 28 1 = 21
            nearest 0 49 0 = 11
            nearest 0 49 1 = 29
            nearest 0 50 0 = 19
            nearest 0 50 1 = 50
            nearest 0 99 0 = 19
            nearest 0 99 1 = 50
            """);
        CALLS.run("25 nearest: of several the least k, then the least h", """
            walker 0 50 0 0 = 0
            walker 0 75 0 0 = 1
            walker 0 25 0 0 = 2
            nearest 0 1 0 = 0
            nearest 0 1 1 = 1
            nearest 1 2 0 = 1
            nearest 1 2 1 = 1
            nearest 2 2 0 = 0
            nearest 2 2 1 = 1
            """);
        CALLS.run("25 nearest: STEP 0, and h that is k", """
            walker 0 0 0 0 = 0
            walker 0 99 0 0 = 1
            nearest 0 99 0 = 0
            nearest 0 99 1 = 1
            nearest 1 1 0 = 1
            nearest 1 1 1 = 1
            nearest 1 49 0 = 1
            nearest 1 99 0 = 98
            nearest 1 99 1 = 99
            """);
        CALLS.run("25 nearest: REFUSALS in their order", """
            nearest 0 0 2 = -1
            walker 0 1 0 0 = 0
            nearest 1 1 0 = -1
            nearest -1 1 0 = -1
            nearest 0 0 2 = -4
            nearest 0 100 2 = -6
            nearest 0 99 2 = -2
            nearest 0 1 -1 = -2
            count 11 = 3
            count 12 = 2
            count 14 = 1
            count 16 = 1
            """);
    }

    private static void floors() {
        CALLS.run("26 floors", """
            walker 2 38 5 3 = 0
            floors 0 0 = 0
            floors 0 1 = 0
            floors 0 3 = 0
            floors 0 4 = 1
            floors 0 6 = 3
            """);
        CALLS.run("26 floors: the most", """
            circle 2000 = 100
            walker 0 1999 0 0 = 0
            walker 0 0 0 0 = 1
            floors 0 4000 = 7992002
            floors 1 4000 = 0
            """);
    }

    private static void rests() {
        CALLS.run("27 rests", """
            walker 2 38 5 3 = 0
            rests 0 0 = 0
            rests 0 1 = 0
            rests 0 2 = 38
            rests 0 4 = 128
            rests 0 6 = 270
            """);
        CALLS.run("27 rests: the most", """
            circle 2000 = 100
            walker 0 1999 0 0 = 0
            walker 0 0 0 0 = 1
            rests 0 4000 = 3998000
            rests 1 4000 = 0
            """);
    }

    private static void reciprocal() {
        CALLS.run("28 reciprocal", """
            circle 7 = 100
            walker 3 3 5 2 = 0
            reciprocal 0 = 12
            circle 12 = 7
            change 0 1 8 = 3
            reciprocal 0 = 80
            change 0 1 0 = 8
            reciprocal 0 = 0
            change 0 1 1 = 0
            reciprocal 0 = 0
            circle 1999 = 12
            change 0 1 1998 = 1
            reciprocal 0 = 3990006
            """);
        CALLS.run("28 reciprocal: REFUSALS", """
            reciprocal 0 = long -1
            walker 0 1 0 0 = 0
            reciprocal 1 = long -1
            reciprocal -1 = long -1
            count 11 = 3
            """);
    }

    private static void lots() {
        CALLS.run("29 lots: one WALKER", """
            walker 0 38 5 0 = 0
            lots 1 0 0 = 1
            lots 1 0 1 = 31
            lots 1 4 1 = 15
            lots 7 -1 0 = 7
            lots 7 -1 1 = 439
            lots 50 12345 0 = 33
            lots 50 12345 1 = 2454
            lots 50 -2147483648 0 = 31
            lots 50 -2147483648 1 = 2294
            lots 50 2147483647 1 = 2422
            """);
        CALLS.run("29 lots: five WALKERS", """
            walker 0 38 5 0 = 0
            walker 1 7 0 3 = 1
            walker 2 38 5 0 = 2
            walker 3 13 50 2 = 3
            walker 4 21 9 0 = 4
            lots 1 0 1 = 18
            lots 1 4 1 = 75
            lots 7 -1 1 = 265
            lots 50 12345 0 = 43
            lots 50 12345 1 = 2420
            lots 50 -2147483648 0 = 33
            lots 50 -2147483648 1 = 2713
            """);
        CALLS.run("29 lots: alike PLACES each", """
            walker 0 0 99 0 = 0
            lots 50 3 0 = 1
            lots 50 3 1 = 4950
            """);
        CALLS.run("29 lots: REFUSALS in their order", """
            lots 0 0 2 = -4
            lots -2147483648 0 2 = -4
            lots 51 0 2 = -6
            lots 50 0 2 = -2
            lots 50 0 -1 = -2
            lots 50 0 1 = -3
            lots 1 0 0 = -3
            count 12 = 2
            count 13 = 2
            count 14 = 2
            count 16 = 1
            """);
    }

    private static void refusalsOfSums(String name) {
        CALLS.run(name + ": REFUSALS in their order", """
            NAME 0 -1 = long -1
            walker 0 1 0 0 = 0
            NAME 1 4001 = long -1
            NAME -1 0 = long -1
            NAME 0 -1 = long -4
            NAME 0 4001 = long -6
            NAME 0 2147483647 = long -6
            count 11 = 3
            count 14 = 1
            count 16 = 2
            """.replace("NAME", name));
    }
}
