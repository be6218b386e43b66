/** Promises 37 to 40. */
public final class ImageTest {
    private static final Calls CALLS = new Calls("ImageTest");

    public static void main(String[] args) {
        undo();
        undoSixteen();
        image();
        on();
        count();
        CALLS.end();
    }

    private static void undo() {
        CALLS.run("37 undo: the latest first", """
            undo = -3
            walker 1 2 3 4 = 0
            walker 0 0 0 0 = 1
            change 0 0 5 = 1
            change 1 1 7 = 0
            change 0 1 9 = 2
            change 0 2 8 = 3
            change 0 3 6 = 4
            change 0 3 6 = 6
            count 3 = 6
            undo = 5
            of 0 3 = 6
            undo = 4
            of 0 3 = 4
            undo = 3
            of 0 2 = 3
            undo = 2
            of 0 1 = 2
            of 1 1 = 7
            undo = 1
            of 1 1 = 0
            of 0 0 = 5
            undo = 0
            of 0 0 = 1
            undo = -3
            count 13 = 2
            count 3 = 0
            """);
        CALLS.run("37 undo: refused changes, image, lists, letters leave it as it is", """
            walker 0 1 0 0 = 0
            change 0 1 2 = 1
            change 0 1 100 = -6
            change 0 4 1 = -2
            image = 1
            list 0 2 = 1
            lays 0 0 0 = 2
            letter 99 = 1
            count 3 = 1
            change 0 1 3 = 2
            undo = 1
            change 0 1 4 = 2
            undo = 1
            undo = 0
            of 0 1 = 1
            """);
    }

    private static void undoSixteen() {
        StringBuilder rows = new StringBuilder("walker 0 0 0 0 = 0\n");
        for (int i = 1; i <= 20; i++) {
            rows.append("change 0 1 ").append(i).append(" = ").append(i - 1).append('\n');
            rows.append("count 3 = ").append(Math.min(i, 16)).append('\n');
        }
        for (int i = 15; i >= 0; i--) {
            rows.append("undo = ").append(i).append('\n');
            rows.append("of 0 1 = ").append(i + 4).append('\n');
        }
        rows.append("undo = -3\nof 0 1 = 4\n");
        CALLS.run("37 undo: 16 at most, older ones no more", rows.toString());
    }

    private static void image() {
        CALLS.run("38 image: how many WALKERS", """
            image = 0
            walker 0 1 0 0 = 0
            image = 1
            walker 0 2 0 0 = 1
            image = 2
            drop = 1
            image = 1
            """);
    }

    private static void on() {
        CALLS.run("39 on: THE CIRCLE, WALKERS as then; again and again", """
            on = -3
            walker 3 11 12 4 = 0
            walker 1 21 22 5 = 1
            image = 2
            circle 50 = 100
            change 0 0 2 = 3
            change 0 1 5 = 11
            change 1 0 0 = 1
            change 1 2 0 = 22
            change 1 3 0 = 5
            drop = 1
            change 0 3 9 = 4
            on = 2
            count 1 = 100
            count 0 = 2
            count 3 = 0
            undo = -3
            of 0 0 = 3
            of 0 1 = 11
            of 0 2 = 12
            of 0 3 = 4
            of 1 0 = 1
            of 1 1 = 21
            of 1 2 = 22
            of 1 3 = 5
            drop = 1
            drop = 0
            circle 7 = 100
            on = 2
            of 1 3 = 5
            count 1 = 100
            """);
        CALLS.run("39 on: letters, LISTS, REFUSALS stay; with no WALKERS", """
            image = 0
            letter 99 = 1
            letter -1 = -4
            list 0 2 = 1
            put 0 1 9 = 1
            walker 0 1 1 0 = 0
            on = 0
            count 0 = 0
            count 2 = 1
            count 14 = 1
            look 0 1 = 9
            """);
        CALLS.run("39 on: a refused one leaves what can be UNDONE", """
            walker 0 1 1 0 = 0
            change 0 1 2 = 1
            on = -3
            count 3 = 1
            count 13 = 1
            """);
        CALLS.run("39 on: what changes behind it does not change the IMAGE", """
            walker 0 1 1 0 = 0
            image = 1
            on = 1
            change 0 1 2 = 1
            letters s00009;c0050;
            walk = 2
            on = 1
            of 0 1 = 1
            count 1 = 100
            """);
    }

    private static void count() {
        CALLS.run("40 count: each what", """
            walker 0 1 1 0 = 0
            change 0 1 2 = 1
            circle 60 = 100
            change 0 1 3 = 2
            change 0 1 3 = 3
            letter 65 = 1
            letter 65 = 2
            letter 65 = 3
            of 7 0 = -1
            floors 7 0 = long -1
            of 0 7 = -2
            of 0 8 = -2
            off 0 1 7 = long -2
            on = -3
            on = -3
            on = -3
            on = -3
            letter -1 = -4
            letter -1 = -4
            letter -1 = -4
            letter -1 = -4
            letter -1 = -4
            letter 256 = -6
            letter 256 = -6
            letter 256 = -6
            letter 256 = -6
            letter 256 = -6
            rests 0 4001 = long -6
            count 0 = 1
            count 1 = 60
            count 2 = 3
            count 3 = 2
            count 11 = 2
            count 12 = 3
            count 13 = 4
            count 14 = 5
            count 15 = 0
            count 16 = 6
            """);
        CALLS.run("40 count: another what, not counted", """
            count -1 = -9
            count 4 = -9
            count 10 = -9
            count 17 = -9
            count -2147483648 = -9
            count 2147483647 = -9
            count 12 = 0
            """);
    }
}
