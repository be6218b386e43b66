/** Promises 1 to 10. */
public final class CircleAndWalkersTest {
    private static final Calls CALLS = new Calls("CircleAndWalkersTest");

    public static void main(String[] args) {
        newObject();
        letter();
        walk();
        walkFormFaults();
        walkStatementFaults();
        circle();
        walker();
        change();
        drop();
        of();
        taken();
        place();
        CALLS.end();
    }

    private static void newObject() {
        CALLS.run("1 a new object", """
            count 0 = 0
            count 1 = 100
            count 2 = 0
            count 3 = 0
            count 11 = 0
            count 12 = 0
            count 13 = 0
            count 14 = 0
            count 15 = 0
            count 16 = 0
            look 0 0 = long -11
            look 1 0 = long -11
            look 2 0 = long -11
            on = -3
            undo = -3
            """);
    }

    private static void letter() {
        CALLS.run("2 letter: edges of c", """
            letter 0 = 1
            letter 255 = 2
            letter -1 = -4
            letter 256 = -6
            letter -2147483648 = -4
            letter 2147483647 = -6
            count 2 = 2
            count 14 = 2
            count 16 = 2
            """);
        StringBuilder full = new StringBuilder();
        for (int i = 1; i <= 72; i++) {
            full.append("letter 59 = ").append(i).append('\n');
        }
        CALLS.run("2 letter: 72 of them", full + """
            letter 59 = -6
            letter -1 = -4
            letter 256 = -6
            count 2 = 72
            count 16 = 2
            """);
    }

    private static void walk() {
        CALLS.run("3 walk: every STATEMENT", """
            letters c0012;w0000500030;w2000500034;s10007;
            walk = 4
            count 0 = 2
            count 1 = 12
            count 2 = 0
            of 0 0 = 0
            of 0 1 = 5
            of 0 2 = 3
            of 0 3 = 0
            of 1 0 = 2
            of 1 1 = 7
            of 1 2 = 3
            of 1 3 = 4
            letters x0;
            walk = 1
            count 0 = 1
            of 0 1 = 7
            of 0 3 = 4
            """);
        CALLS.run("3 walk: behind an x the numbers are less, all that is theirs moves along", """
            walker 1 11 12 1 = 0
            walker 2 21 22 2 = 1
            walker 3 31 32 3 = 2
            letters x1;s10039;
            walk = 2
            count 0 = 2
            of 0 0 = 1
            of 0 1 = 11
            of 0 2 = 12
            of 0 3 = 1
            of 1 0 = 3
            of 1 1 = 39
            of 1 2 = 32
            of 1 3 = 3
            """);
        CALLS.run("3 walk: 24 STATEMENTS in 72 letters are read", """
            letters x0;x0;x0;x0;x0;x0;x0;x0;x0;x0;x0;x0;x0;x0;x0;x0;x0;x0;x0;x0;x0;x0;x0;x0;
            count 2 = 72
            walk = -2000
            letters w0000000000;w1000100010;w2000200020;w3000300030;w4000400040;x4;
            count 2 = 63
            walk = 6
            count 0 = 4
            """);
        CALLS.run("3 walk: without FAULT nothing can be UNDONE, with one all still can", """
            walker 0 1 1 1 = 0
            change 0 1 2 = 1
            letters x5;
            walk = -2000
            count 3 = 1
            walk = -1000
            count 3 = 1
            letters s00002;
            walk = 1
            count 3 = 0
            undo = -3
            """);
    }

    private static void walkFormFaults() {
        CALLS.run("3 walk: FAULT of kind 1, letters are no more, it is not counted", """
            walk = -1000
            letters c
            walk = -1001
            count 2 = 0
            letters c001
            walk = -1004
            letters c0012
            walk = -1005
            letters c0012x
            walk = -1005
            letters c00120;
            walk = -1005
            letters c00x2;
            walk = -1003
            letters ;
            walk = -1000
            letters C0012;
            walk = -1000
            letters c0012;;
            walk = -1006
            letters c0012;w000010001
            walk = -1016
            letters w00001000100
            walk = -1011
            letters w00001000100:
            walk = -1011
            letters w000010001/;
            walk = -1010
            letters s00001
            walk = -1006
            letters s0000;
            walk = -1005
            letters x
            walk = -1001
            letters x:
            walk = -1001
            letters x00
            walk = -1002
            count 1 = 100
            count 11 = 0
            count 12 = 0
            count 13 = 0
            count 14 = 0
            count 16 = 0
            """);
        CALLS.run("3 walk: a FAULT of kind 1 goes ahead of one of kind 2, nothing comes", """
            letters c0012;x9;c
            walk = -1010
            count 1 = 100
            letters c0012;x9;c0012;
            walk = -2006
            count 1 = 100
            """);
        CALLS.run("3 walk: 72 letters, something lacks", """
            letters c0012;c0012;c0012;c0012;c0012;c0012;c0012;c0012;c0012;c0012;c0012;w00000
            count 2 = 72
            walk = -1072
            """);
    }

    private static void walkStatementFaults() {
        CALLS.run("3 walk: FAULT of kind 2 by number", """
            letters c0001;
            walk = -2000
            letters c0002;
            walk = 1
            letters c2001;
            walk = -2000
            letters c2000;
            walk = 1
            letters c0010;w6000000000;
            walk = -2006
            letters c0010;w0001000000;
            walk = -2006
            letters c0010;w0000000100;
            walk = -2006
            letters c0010;w5000900099;s00009;
            walk = 3
            letters s00010;
            walk = -2000
            letters s10000;
            walk = -2000
            letters x1;
            walk = -2000
            letters c0009;
            walk = -2000
            letters x0;c0009;
            walk = 2
            count 1 = 9
            count 0 = 0
            """);
        CALLS.run("3 walk: what counts is what stands ahead in the text", """
            letters c0200;w0015001500;
            walk = 2
            letters c0151;c0150;
            walk = -2006
            count 1 = 200
            letters w0000100010;w0000200020;w0000300030;w0000400040;
            walk = 4
            count 0 = 5
            letters w0000100010;
            walk = -2000
            letters x0;w0000500050;w0000600060;
            walk = -2015
            count 0 = 5
            letters x0;w0000500050;
            walk = 2
            of 0 1 = 1
            of 4 1 = 5
            """);
    }

    private static void circle() {
        CALLS.run("4 circle: answers what it had, edges", """
            circle 50 = 100
            count 1 = 50
            circle 2 = 50
            circle 2000 = 2
            circle 1 = -4
            circle -2147483648 = -4
            circle 2001 = -6
            circle 2147483647 = -6
            count 1 = 2000
            count 14 = 2
            count 16 = 2
            """);
        CALLS.run("4 circle: STEP and START must be less", """
            walker 0 40 30 9 = 0
            walker 0 20 50 9 = 1
            circle 50 = -3
            circle 51 = 100
            change 1 2 0 = 50
            circle 40 = -3
            circle 41 = 51
            circle 1 = -4
            circle 2001 = -6
            count 13 = 2
            count 1 = 41
            """);
        CALLS.run("4 circle: leaves nothing to be UNDONE unless refused", """
            walker 0 40 30 9 = 0
            change 0 1 7 = 40
            circle 30 = -3
            count 3 = 1
            circle 100 = 100
            count 3 = 0
            """);
    }

    private static void walker() {
        CALLS.run("5 walker: numbers as they come, edges", """
            walker 0 0 0 0 = 0
            walker 5 99 99 9 = 1
            of 1 0 = 5
            of 1 1 = 99
            of 1 2 = 99
            of 1 3 = 9
            walker 6 0 0 0 = -2
            walker -1 0 0 0 = -2
            walker 0 -1 0 0 = -4
            walker 0 0 -1 0 = -4
            walker 0 0 0 -1 = -4
            walker 0 100 0 0 = -6
            walker 0 0 100 0 = -6
            walker 0 0 0 10 = -6
            count 0 = 2
            count 12 = 2
            count 14 = 3
            count 16 = 3
            """);
        CALLS.run("5 walker: the first REFUSAL that fits", """
            walker 6 -1 100 0 = -2
            walker -1 -1 -1 -1 = -2
            walker 0 100 -1 0 = -4
            walker 0 100 0 -1 = -4
            walker 0 0 0 0 = 0
            walker 1 0 0 0 = 1
            walker 2 0 0 0 = 2
            walker 3 0 0 0 = 3
            walker 4 0 0 0 = 4
            walker 5 0 0 0 = -6
            walker 6 0 0 0 = -2
            walker 5 0 0 -1 = -4
            count 0 = 5
            """);
        CALLS.run("5 walker: leaves nothing to be UNDONE unless refused; goes by Q", """
            circle 10 = 100
            walker 0 10 0 0 = -6
            walker 0 9 9 0 = 0
            change 0 1 1 = 9
            walker 0 0 10 0 = -6
            count 3 = 1
            walker 0 0 9 0 = 1
            count 3 = 0
            """);
    }

    private static void change() {
        CALLS.run("6 change: answers what it was, edges", """
            circle 20 = 100
            walker 1 2 3 4 = 0
            walker 0 0 0 0 = 1
            change 0 0 5 = 1
            change 0 0 0 = 5
            change 0 1 19 = 2
            change 0 1 0 = 19
            change 0 2 19 = 3
            change 0 3 9 = 4
            of 0 0 = 0
            of 0 1 = 0
            of 0 2 = 19
            of 0 3 = 9
            of 1 1 = 0
            of 1 3 = 0
            change 0 0 6 = -6
            change 0 1 20 = -6
            change 0 2 20 = -6
            change 0 3 10 = -6
            change 0 0 -1 = -4
            change 0 3 -1 = -4
            change 0 4 0 = -2
            change 0 -1 0 = -2
            change 2 0 0 = -1
            change -1 0 0 = -1
            count 11 = 2
            count 12 = 2
            count 14 = 2
            count 16 = 4
            count 3 = 6
            """);
        CALLS.run("6 change: the first REFUSAL that fits", """
            change 0 4 -1 = -1
            walker 0 0 0 0 = 0
            change 0 4 -1 = -2
            change 0 4 1000 = -2
            change 0 1 -1000 = -4
            """);
    }

    private static void drop() {
        CALLS.run("7 drop", """
            drop = -3
            walker 0 1 0 0 = 0
            walker 0 2 0 0 = 1
            change 0 1 3 = 1
            drop = 1
            count 3 = 0
            of 0 1 = 3
            of 1 1 = -1
            drop = 0
            drop = -3
            count 13 = 2
            walker 2 5 6 7 = 0
            """);
        CALLS.run("7 drop: a refused one changes nothing", """
            drop = -3
            count 0 = 0
            count 3 = 0
            """);
    }

    private static void of() {
        CALLS.run("8 of: RETURN by KIND", """
            circle 12 = 100
            walker 0 5 3 0 = 0
            walker 1 3 1 0 = 1
            walker 2 8 0 0 = 2
            walker 3 4 5 1 = 3
            walker 4 6 2 0 = 4
            of 0 4 = 12
            of 1 4 = 2
            of 2 4 = 3
            of 3 4 = 2
            of 4 4 = 3
            change 4 0 5 = 4
            change 4 3 3 = 0
            of 4 4 = 4
            """);
        CALLS.run("8 of: 2000 at most for RETURN, STEP 0", """
            circle 2000 = 100
            walker 0 1 7 0 = 0
            walker 0 0 7 0 = 1
            of 0 4 = 2000
            of 1 4 = 1
            change 0 0 4 = 0
            of 0 4 = -9
            circle 1001 = 2000
            of 0 4 = -9
            circle 1000 = 1001
            of 0 4 = 1999
            """);
        CALLS.run("8 of: REFUSALS", """
            of 0 0 = -1
            of 0 9 = -1
            walker 0 1 1 1 = 0
            of 0 -1 = -2
            of 0 5 = -2
            of 1 0 = -1
            of -1 0 = -1
            count 11 = 4
            count 12 = 2
            """);
    }

    private static void taken() {
        CALLS.run("9 taken: each KIND for each", """
            walker 0 1 0 0 = 0
            taken 0 0 = 0
            taken 0 1 = -16
            taken 0 2 = -16
            taken 0 3 = -16
            taken 0 4 = -16
            taken 0 5 = -16
            change 0 0 1 = 0
            taken 0 0 = 1
            taken 0 1 = 1
            taken 0 2 = -16
            taken 0 3 = -16
            taken 0 4 = -16
            taken 0 5 = -16
            change 0 0 2 = 1
            taken 0 0 = 2
            taken 0 1 = -16
            taken 0 2 = 2
            taken 0 3 = -16
            taken 0 4 = -16
            taken 0 5 = -16
            change 0 0 3 = 2
            taken 0 0 = 3
            taken 0 1 = -16
            taken 0 2 = -16
            taken 0 3 = 3
            taken 0 4 = -16
            taken 0 5 = -16
            change 0 0 4 = 3
            taken 0 0 = 4
            taken 0 1 = -16
            taken 0 2 = 4
            taken 0 3 = -16
            taken 0 4 = 4
            taken 0 5 = -16
            change 0 0 5 = 4
            taken 0 0 = 5
            taken 0 1 = 5
            taken 0 2 = -16
            taken 0 3 = -16
            taken 0 4 = -16
            taken 0 5 = 5
            count 16 = 0
            """);
        CALLS.run("9 taken: REFUSALS", """
            taken 0 6 = -1
            walker 0 1 0 0 = 0
            taken 0 6 = -2
            taken 0 -1 = -2
            taken 1 0 = -1
            taken -1 0 = -1
            count 11 = 3
            count 12 = 2
            """);
    }

    private static void place() {
        CALLS.run("10 place: each KIND", """
            circle 10 = 100
            walker 0 3 4 2 = 0
            place 0 0 = 4
            place 0 1 = 7
            place 0 2 = 0
            place 0 5 = 9
            change 0 0 1 = 0
            place 0 0 = 4
            place 0 1 = 7
            place 0 2 = 6
            place 0 5 = 9
            change 0 0 2 = 1
            place 0 0 = 4
            place 0 1 = 1
            place 0 2 = 8
            place 0 5 = 9
            change 0 0 3 = 2
            place 0 0 = 4
            place 0 2 = 0
            place 0 3 = 6
            place 0 5 = 2
            place 0 6 = 8
            change 0 0 4 = 3
            place 0 0 = 4
            place 0 1 = 7
            place 0 2 = 1
            place 0 3 = 0
            place 0 4 = 8
            change 0 0 5 = 4
            place 0 0 = 4
            place 0 1 = 9
            place 0 2 = 0
            place 0 3 = 7
            """);
        CALLS.run("10 place: the greatest k", """
            circle 2000 = 100
            walker 1 1999 1999 0 = 0
            place 0 4000 = 1999
            place 0 3999 = 1998
            walker 5 1997 1 9 = 1
            place 1 3999 = 1989
            walker 3 1999 0 0 = 2
            place 2 4000 = 0
            place 2 3999 = 2
            """);
        CALLS.run("10 place: REFUSALS", """
            place 0 -1 = -1
            walker 0 1 0 0 = 0
            place 0 -1 = -4
            place 0 4001 = -6
            place 0 4000 = 0
            place 1 0 = -1
            place -1 5000 = -1
            count 11 = 3
            count 14 = 1
            count 16 = 1
            """);
    }
}
