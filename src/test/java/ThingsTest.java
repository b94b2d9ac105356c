/** Promises 10 to 13: sort, terminal, block, deaf. */
public final class ThingsTest {
    private static final Check CHECK = new Check("ThingsTest");

    public static void main(String[] args) {
        sorts();
        terminals();
        blocks();
        deafness();
        CHECK.end();
    }

    /**
     * Step 0: terminal 0 has 4, a report of 68 and 2 of class 1.
     * Step 1: terminal 1 has 4, a report of 1 and 2 of class 0; terminal 0 the other 6, of class 1, not heard.
     * Step 2: those 6 are sent again and lost; terminal 1 has 3, its last letter and a report of 0;
     * terminal 0, which wants to report, has the 1 that is left: a letter of class 1, not heard.
     */
    private static UpwardGrants busy() {
        UpwardGrants x = Check.told("t1;t4;c1 7 2 9;c0 3 1 5;c0 4 0 0;s10;b0;r1 2;");
        x.comes(0, 3);
        x.comes(1, 30);
        x.comes(2, 40);
        x.deafens(0, 1, 3);
        x.steps(3);
        return x;
    }

    private static void sorts() {
        UpwardGrants x = busy();
        int[][] due = {
            {1, 7, 2, 9, 0, 3, 3, 0, 0},
            {0, 3, 1, 5, 21, 0, 2, 6, 1},
            {0, 4, 0, 0, 40, 0, 0, 0, 0},
        };
        for (int c = 0; c < due.length; c++) {
            for (int what = 0; what <= 8; what++) {
                CHECK.due("sort(" + c + ", " + what + ")", x.sort(c, what), due[c][what]);
            }
        }
        x.undo();
        x.steps(2);
        CHECK.due("on the way of 1", x.sort(1, 8), 6);
        CHECK.due("on the way of 0", x.sort(0, 8), 0);
        CHECK.due("lost of 1", x.sort(1, 7), 0);
        CHECK.refused(x, "sort(3, 0)", () -> x.sort(3, 0), -1);
        CHECK.refused(x, "sort(-1, 0)", () -> x.sort(-1, 0), -1);
        CHECK.refused(x, "sort(0, 9)", () -> x.sort(0, 9), -1);
        CHECK.refused(x, "sort(0, -1)", () -> x.sort(0, -1), -1);
    }

    private static void terminals() {
        UpwardGrants x = busy();
        int[][] due = {
            {1, 1, 1, 0, 68, 61, 1, 11, 1},
            {4, 0, 2, 0, 0, 0, 1, 7, 0},
        };
        for (int t = 0; t < due.length; t++) {
            for (int what = 0; what <= 8; what++) {
                CHECK.due("terminal(" + t + ", " + what + ")", x.terminal(t, what), due[t][what]);
            }
        }
        x.undo();
        x.steps(2);
        CHECK.due("blocks of 0", x.terminal(0, 8), 1);
        CHECK.due("blocks of 1", x.terminal(1, 8), 0);
        CHECK.due("thought of 1", x.terminal(1, 4), 1);
        CHECK.refused(x, "terminal(2, 0)", () -> x.terminal(2, 0), -1);
        CHECK.refused(x, "terminal(-1, 0)", () -> x.terminal(-1, 0), -1);
        CHECK.refused(x, "terminal(0, 9)", () -> x.terminal(0, 9), -1);
        CHECK.refused(x, "terminal(0, -1)", () -> x.terminal(0, -1), -1);
    }

    private static void blocks() {
        UpwardGrants x = busy();
        x.undo();
        x.steps(2);
        int[] due = {0, 2, 1, 6, -9};
        for (int what = 0; what <= 4; what++) {
            CHECK.due("block(0, " + what + ")", x.block(0, what), due[what]);
            CHECK.due("block(1, " + what + ")", x.block(1, what), -9);
            CHECK.due("block(MAX, " + what + ")", x.block(Integer.MAX_VALUE, what), -9);
        }
        CHECK.refused(x, "block(-1, 0)", () -> x.block(-1, 0), -1);
        CHECK.refused(x, "block(0, 5)", () -> x.block(0, 5), -1);
        CHECK.refused(x, "block(0, -1)", () -> x.block(0, -1), -1);
        CHECK.refused(x, "block(99, 5)", () -> x.block(99, 5), -1);
    }

    private static void deafness() {
        UpwardGrants x = Check.told("t1;t1;");
        x.deafens(1, 3, 5);
        x.deafens(1, 199, 199);
        x.deafens(0, 0, 0);
        x.steps(40);
        for (int step = 0; step <= 199; step++) {
            CHECK.due("deaf(1, " + step + ")", x.deaf(1, step), step >= 3 && step <= 5 || step == 199 ? 1 : 0);
            CHECK.due("deaf(0, " + step + ")", x.deaf(0, step), step == 0 ? 1 : 0);
        }
        CHECK.refused(x, "deaf(0, 200)", () -> x.deaf(0, 200), -1);
        CHECK.refused(x, "deaf(0, -1)", () -> x.deaf(0, -1), -1);
        CHECK.refused(x, "deaf(2, 0)", () -> x.deaf(2, 0), -1);
        CHECK.refused(x, "deaf(-1, 0)", () -> x.deaf(-1, 0), -1);
    }
}
