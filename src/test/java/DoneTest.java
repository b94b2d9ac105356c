/** Promises 5 to 9: comes, steps, deafens, widens, undo. */
public final class DoneTest {
    private static final Check CHECK = new Check("DoneTest");

    public static void main(String[] args) {
        coming();
        wanting();
        tokens();
        asking();
        askingAgain();
        grantsInTurn();
        packing();
        reports();
        thought();
        repeated();
        repeatedInOrder();
        lostAtOnce();
        mostBlocks();
        stepsEdges();
        deafening();
        widening();
        undoing();
        undoKnowsEight();
        CHECK.end();
    }

    private static void coming() {
        UpwardGrants x = Check.told("t1;t1;c1 0 0 0;");
        CHECK.due("comes(0, 1)", x.comes(0, 1), 1);
        CHECK.due("comes(0, 99)", x.comes(0, 99), 100);
        CHECK.refused(x, "comes(0, 0)", () -> x.comes(0, 0), -1);
        CHECK.refused(x, "comes(0, 100)", () -> x.comes(0, 100), -1);
        CHECK.refused(x, "comes(0, -1)", () -> x.comes(0, -1), -1);
        CHECK.refused(x, "comes(1, 1)", () -> x.comes(1, 1), -1);
        CHECK.refused(x, "comes(-1, 1)", () -> x.comes(-1, 1), -1);
        for (int i = 2; i <= 9; i++) {
            CHECK.due("comes(0, 99)", x.comes(0, 99), 1 + 99 * i);
        }
        CHECK.due("comes(0, 99)", x.comes(0, 99), 991);
        CHECK.refused(x, "comes(0, 9) over 991", () -> x.comes(0, 9), -3);
        CHECK.due("comes(0, 8)", x.comes(0, 8), 999);
        CHECK.refused(x, "comes(0, 1) over 999", () -> x.comes(0, 1), -3);
        CHECK.refused(x, "comes(0, 100) over 999", () -> x.comes(0, 100), -1);
        CHECK.due("terminal(0, 1)", x.terminal(0, 1), 0);
        CHECK.due("terminal(1, 1)", x.terminal(1, 1), 1);
    }

    /** Wanting is set only by letters of a class with nothing waiting in it nor ahead of it. */
    private static void wanting() {
        String text = "t1;t1;c0 5 0 0;c0 5 0 0;c0 1 0 0;c1 0 0 0;s60;";
        UpwardGrants x = Check.told(text);
        x.comes(1, 99);
        CHECK.due("wants at first letters", x.terminal(0, 1), 1);
        x.steps(1);
        CHECK.due("has reported", x.terminal(0, 1), 0);
        x.comes(1, 1);
        CHECK.due("letters in it waited", x.terminal(0, 1), 0);
        x.comes(3, 1);
        CHECK.due("another terminal's do not matter", x.terminal(0, 1), 0);
        x.comes(0, 1);
        CHECK.due("the lower number of like priority is ahead", x.terminal(0, 1), 1);

        UpwardGrants y = Check.told(text);
        y.comes(0, 99);
        y.steps(1);
        y.comes(1, 1);
        CHECK.due("the higher number is behind", y.terminal(0, 1), 0);
        y.comes(2, 1);
        CHECK.due("the lower priority is ahead", y.terminal(0, 1), 1);

        UpwardGrants z = Check.told(text);
        z.comes(2, 99);
        z.steps(1);
        z.comes(0, 1);
        CHECK.due("the higher priority is behind", z.terminal(0, 1), 0);
    }

    private static void tokens() {
        UpwardGrants x = Check.told("t1;c0 0 7 10;c0 0 0 9;c0 0 9 0;s0;");
        int[][] due = {{7, 0, 0}, {10, 0, 0}, {10, 0, 0}};
        for (int step = 0; step < 3; step++) {
            x.steps(1);
            for (int c = 0; c < 3; c++) {
                CHECK.due("tokens of " + c + " behind step " + step, x.sort(c, 5), due[step][c]);
            }
        }
    }

    private static void asks(UpwardGrants x, int t, int asks, int till, int asked) {
        String at = "terminal " + t + " at " + x.count(6) + ": ";
        CHECK.due(at + "asks", x.terminal(t, 6), asks);
        CHECK.due(at + "banned till", x.terminal(t, 2), till);
        CHECK.due(at + "asked", x.terminal(t, 3), asked);
    }

    private static void asking() {
        UpwardGrants x = Check.told("t3;t3;c1 0 0 0;s0;b1;");
        x.steps(2);
        asks(x, 1, 0, 0, 0);
        x.comes(0, 1);
        x.steps(2);
        asks(x, 1, 0, 0, 0);
        x.steps(1);
        asks(x, 1, 1, 6, 1);
        asks(x, 0, 0, 0, 0);
        x.steps(2);
        asks(x, 1, 1, 6, 1);
        x.steps(1);
        asks(x, 1, 2, 9, 1);
        CHECK.due("no room, no grant", x.count(8), -9);
    }

    /** Its places are behind the ban: a ban that ends just at a place lets it ask. */
    private static void askingAgain() {
        int[][] banAndSecond = {{0, 3}, {2, 3}, {3, 6}, {5, 6}, {6, 9}, {9, 12}};
        for (int[] one : banAndSecond) {
            UpwardGrants x = Check.told("t3;c0 0 0 0;s0;b" + one[0] + ";");
            x.comes(0, 1);
            x.steps(1);
            asks(x, 0, 1, one[0] + 1, 1);
            x.steps(one[1] - 1);
            asks(x, 0, 1, one[0] + 1, 1);
            x.steps(1);
            asks(x, 0, 2, one[1] + one[0] + 1, 1);
        }
        UpwardGrants y = Check.told("t2;t2;t2;c2 0 0 0;s0;");
        y.comes(0, 1);
        y.steps(1);
        asks(y, 2, 1, 3, 1);
    }

    private static void grants(UpwardGrants x, int last, int... granted) {
        CHECK.due("last at " + x.count(6), x.count(8), last);
        for (int t = 0; t < granted.length; t++) {
            CHECK.due("granted to " + t + " at " + x.count(6), x.terminal(t, 7), granted[t]);
        }
    }

    private static void grantsInTurn() {
        UpwardGrants x = Check.told("t1;t1;t1;c0 0 0 0;c1 0 0 0;c2 0 0 0;s7;b0;");
        x.comes(0, 20);
        x.comes(1, 20);
        x.comes(2, 20);
        x.steps(1);
        // 4 to the first, 3 to the second; the third's asking stands.
        grants(x, 1, 4, 3, 0);
        asks(x, 2, 1, 1, 1);
        CHECK.due("2 came with a report of 18", x.terminal(0, 4), 18);
        CHECK.due("1 came with a report of 19", x.terminal(1, 4), 19);
        x.steps(1);
        // The third asks again, has its 4; then the first has the 3 that are left.
        grants(x, 0, 7, 3, 4);
        asks(x, 2, 2, 2, 0);
        x.steps(1);
        grants(x, 1, 7, 10, 4);
        x.widens(0);
        x.steps(1);
        grants(x, 1, 7, 10, 4);
        x.widens(60);
        x.steps(1);
        // 18 thought of the third and 2; 15 and 2 of the first; 12 and 2 of the second.
        grants(x, 1, 24, 24, 24);
        CHECK.due("all came through", x.count(7) + x.drain(), 0);
    }

    private static void packing() {
        UpwardGrants x = Check.told("t1;c0 5 3 9;c0 2 2 9;c0 2 4 9;c0 0 0 0;s20;b0;");
        x.comes(0, 10);
        x.comes(1, 10);
        x.comes(2, 10);
        x.comes(3, 1);
        CHECK.due("steps(1)", x.steps(1), 2);
        // 4: a report; 3 has no tokens, 1 has 2.
        waits(x, 10, 8, 10, 1);
        tokensAre(x, 3, 0, 4, 0);
        x.widens(13);
        CHECK.due("steps(1) of 13", x.steps(1), 13);
        // By tokens: 2 of 1, 8 of 2, 3 of 0 (it has 6).
        waits(x, 7, 6, 2, 1);
        tokensAre(x, 3, 0, 0, 0);
        x.widens(15);
        CHECK.due("steps(1) of 15", x.steps(1), 15);
        // By tokens: 2 of 1, 2 of 2, 6 of 0; then 1 of 3, 4 of 1.
        waits(x, 1, 0, 0, 0);
        tokensAre(x, 0, 0, 2, 0);
        CHECK.due("no report, 15 less of 16", x.terminal(0, 4), 1);
        CHECK.due("steps(1) at last", x.steps(1), 1);
        CHECK.due("a report in what is free", x.terminal(0, 4), 0);
    }

    private static void waits(UpwardGrants x, int... letters) {
        for (int c = 0; c < letters.length; c++) {
            CHECK.due("waits in " + c + " at " + x.count(6), x.sort(c, 4), letters[c]);
        }
    }

    private static void tokensAre(UpwardGrants x, int... tokens) {
        for (int c = 0; c < tokens.length; c++) {
            CHECK.due("tokens of " + c + " at " + x.count(6), x.sort(c, 5), tokens[c]);
        }
    }

    private static void reports() {
        // A grant of 1 has no report; the terminal still wants.
        UpwardGrants x = Check.told("t1;c0 0 0 0;s1;b0;");
        x.comes(0, 2);
        CHECK.due("steps(1) of 1", x.steps(1), 1);
        CHECK.due("still wants", x.terminal(0, 1), 1);
        CHECK.due("nothing is thought", x.terminal(0, 4), 0);
        // A grant of 2: a report alone, and no letter.
        x.widens(2);
        CHECK.due("steps(1) of 2", x.steps(1), 0);
        CHECK.due("wants no more", x.terminal(0, 1), 0);
        CHECK.due("1 is thought", x.terminal(0, 4), 1);
        CHECK.due("asked twice", x.terminal(0, 6), 2);
        CHECK.due("granted 1 and 2", x.terminal(0, 7), 3);
        // 1 and 2 of 2: a letter, and 1 free is too little for a report.
        CHECK.due("steps(1) of 2 again", x.steps(1), 1);
        CHECK.due("0 is thought", x.terminal(0, 4), 0);
        CHECK.due("not asked again", x.terminal(0, 6), 2);

        // 2 free are a report that nobody wants, 1 is none.
        UpwardGrants z = Check.told("t1;c0 0 0 0;s4;b0;");
        z.comes(0, 3);
        z.steps(1);
        z.deafens(0, 1, 9);
        z.keep(0);
        z.steps(1);
        block(z, 0, 0, 5, 1, 3, 0);
        z.back(0);
        z.widens(2);
        z.steps(1);
        block(z, 0, 0, 5, 1, 1, -9);

        // A report says what waits in all classes of its terminal behind the packing.
        UpwardGrants y = Check.told("t1;t1;c0 0 0 0;c1 0 0 0;c0 0 0 0;s4;b0;");
        y.comes(0, 9);
        y.comes(1, 50);
        y.comes(2, 30);
        y.steps(1);
        CHECK.due("7 and 30 are thought", y.terminal(0, 4), 37);
        CHECK.due("7 and 30 wait", y.terminal(0, 5), 37);
        CHECK.due("50 wait", y.terminal(1, 5), 50);
    }

    /** A block without a report takes from what is thought; an empty grant makes no block. */
    private static void thought() {
        UpwardGrants x = Check.told("t1;c0 0 0 0;s4;b0;r6 4;");
        x.comes(0, 9);
        x.deafens(0, 0, 0);
        x.steps(1);
        CHECK.due("a block with 7 told is on the way", x.block(0, 4), 7);
        x.comes(0, 5);
        x.steps(4);
        CHECK.due("nothing asked for, nothing sent", x.sort(0, 4), 12);
        x.widens(6);
        x.steps(2);
        CHECK.due("the report of 7 is heard late", x.terminal(0, 4), 5);
        CHECK.due("2 of the room went to a grant", x.terminal(0, 7), 6);

        // Repeated blocks take all the room: no grant, and the turn stays.
        UpwardGrants y = Check.told("t1;t1;c0 0 0 0;c1 0 0 0;s4;b0;r1 4;");
        y.comes(0, 9);
        y.deafens(0, 0, 2);
        y.steps(1);
        y.comes(1, 9);
        y.steps(2);
        CHECK.due("no room beside the repeated block", y.terminal(1, 7), 0);
        CHECK.due("the turn stays", y.count(8), 0);
        CHECK.due("it asked twice", y.terminal(1, 6), 2);
        y.widens(3);
        CHECK.due("more is repeated than there is room", y.steps(1), 2);
        CHECK.due("still no room", y.terminal(1, 7), 0);
    }

    private static void block(UpwardGrants x, int k, int... due) {
        for (int what = 0; what < due.length; what++) {
            CHECK.due("block(" + k + ", " + what + ") at " + x.count(6), x.block(k, what), due[what]);
        }
    }

    private static void repeated() {
        UpwardGrants x = Check.told("t1;c0 0 0 0;s60;b9;r3 3;");
        x.comes(0, 3);
        x.deafens(0, 0, 5);
        CHECK.due("steps(1)", x.steps(1), 0);
        block(x, 0, 0, 3, 1, 4, 1);
        CHECK.due("on the way", x.sort(0, 8), 2);
        CHECK.due("blocks of it", x.terminal(0, 8), 1);
        x.steps(2);
        block(x, 0, 0, 3, 1, 4, 1);
        CHECK.due("steps(1) at 3", x.steps(1), 0);
        block(x, 0, 0, 6, 2, 4, 1);
        x.steps(2);
        CHECK.due("steps(1) at 6", x.steps(1), 3);
        CHECK.due("no block", x.count(7), 0);
        CHECK.due("through, the report's 1, too", x.sort(0, 6), 3);

        UpwardGrants y = Check.told("t1;c0 0 0 0;s60;b9;r3 3;");
        y.comes(0, 3);
        y.deafens(0, 0, 6);
        y.steps(6);
        CHECK.due("wants not", y.terminal(0, 1), 0);
        y.steps(1);
        CHECK.due("lost at the third", y.sort(0, 7), 2);
        CHECK.due("none on the way", y.count(7) + y.sort(0, 8) + y.terminal(0, 8), 0);
        CHECK.due("wants again", y.terminal(0, 1), 1);
        CHECK.due("none is through", y.sort(0, 6), 0);
    }

    private static void repeatedInOrder() {
        UpwardGrants x = Check.told("t1;t1;c0 0 0 0;c1 0 0 0;s60;b0;r2 4;");
        x.comes(1, 5);
        x.deafens(0, 0, 9);
        x.deafens(1, 0, 9);
        x.steps(1);
        x.comes(0, 6);
        x.steps(1);
        CHECK.due("two blocks", x.count(7), 2);
        block(x, 0, 1, 2, 1, 4, 3);
        block(x, 1, 0, 3, 1, 4, 4);
        x.comes(0, 1);
        x.steps(1);
        block(x, 0, 0, 3, 1, 4, 4);
        block(x, 1, 1, 4, 2, 4, 3);
        block(x, 2, -9);

        UpwardGrants y = Check.told("t1;t1;c0 0 0 0;c1 0 0 0;s60;b0;r1 4;");
        y.comes(0, 9);
        y.steps(1);
        y.comes(1, 9);
        y.deafens(0, 1, 9);
        y.deafens(1, 1, 9);
        y.steps(1);
        // The second was made first, as the first had the grant before.
        CHECK.due("last", y.count(8), 0);
        block(y, 0, 0, 2, 1, 9, 0);
        block(y, 1, 1, 2, 1, 4, 7);
        y.steps(1);
        block(y, 0, 0, 3, 2, 9, 0);
        block(y, 1, 0, 3, 1, 2, 0);
        block(y, 2, 1, 3, 2, 4, 7);
    }

    private static void lostAtOnce() {
        UpwardGrants x = Check.told("t1;c0 0 0 0;s60;b0;r1 1;");
        x.comes(0, 9);
        x.deafens(0, 0, 0);
        x.steps(1);
        CHECK.due("none on the way", x.count(7), 0);
        CHECK.due("2 are lost", x.sort(0, 7), 2);
        CHECK.due("the report did not keep it from wanting", x.terminal(0, 1), 1);
        CHECK.due("nothing is thought", x.terminal(0, 4), 0);
        CHECK.due("steps(2)", x.steps(2), 7);
    }

    /** Three terminals make a block in each step, and each block is on the way in 18. */
    private static void mostBlocks() {
        UpwardGrants x = Check.told("t1;t1;t1;c0 0 0 0;c1 0 0 0;c2 0 0 0;s60;b0;r6 4;");
        for (int t = 0; t < 3; t++) {
            x.comes(t, 3);
        }
        x.steps(1);
        for (int t = 0; t < 3; t++) {
            x.deafens(t, 1, 199);
        }
        for (int step = 1; step <= 22; step++) {
            x.steps(1);
            CHECK.due("blocks behind step " + step, x.count(7), 3 * Math.min(step, 18));
            CHECK.due("lost behind step " + step, x.sort(2, 7), step < 19 ? 0 : 1);
        }
        block(x, 0, 0, 23, 3, 2, 0);
        block(x, 3, 1, 23, 3, 2, 0);
        block(x, 2, 0, 23, 1, 2, 0);
        block(x, 53, 2, 28, 1, 2, 0);
        block(x, 54, -9);
    }

    private static void stepsEdges() {
        UpwardGrants x = Check.told("t1;c0 0 0 0;");
        CHECK.refused(x, "steps(0)", () -> x.steps(0), -1);
        CHECK.refused(x, "steps(41)", () -> x.steps(41), -1);
        CHECK.refused(x, "steps(-1)", () -> x.steps(-1), -1);
        CHECK.refused(x, "steps(MAX)", () -> x.steps(Integer.MAX_VALUE), -1);
        for (int i = 1; i <= 4; i++) {
            x.steps(40);
        }
        CHECK.refused(x, "steps(40) from 160", () -> x.steps(40), -2);
        CHECK.due("steps(39) from 160", x.steps(39), 0);
        CHECK.due("count(6)", x.count(6), 199);
        CHECK.refused(x, "steps(1) from 199", () -> x.steps(1), -2);
        CHECK.refused(x, "steps(41) from 199", () -> x.steps(41), -1);
    }

    private static void deafening() {
        UpwardGrants x = Check.told("t1;t1;c0 0 0 0;");
        x.steps(5);
        CHECK.refused(x, "deafens(0, 4, 9)", () -> x.deafens(0, 4, 9), -1);
        CHECK.refused(x, "deafens(0, 9, 8)", () -> x.deafens(0, 9, 8), -1);
        CHECK.refused(x, "deafens(0, 9, 200)", () -> x.deafens(0, 9, 200), -1);
        CHECK.refused(x, "deafens(0, 200, 200)", () -> x.deafens(0, 200, 200), -1);
        CHECK.refused(x, "deafens(2, 9, 9)", () -> x.deafens(2, 9, 9), -1);
        CHECK.refused(x, "deafens(-1, 9, 9)", () -> x.deafens(-1, 9, 9), -1);
        CHECK.due("deafens(0, 5, 5)", x.deafens(0, 5, 5), 1);
        CHECK.due("deafens(0, 5, 5) again", x.deafens(0, 5, 5), 0);
        CHECK.due("it can be undone, too", x.count(11), 3);
        CHECK.due("deafens(0, 8, 10)", x.deafens(0, 8, 10), 3);
        CHECK.due("deafens(0, 5, 199)", x.deafens(0, 5, 199), 191);
        CHECK.due("deafens(1, 199, 199)", x.deafens(1, 199, 199), 1);
        CHECK.due("deaf(1, 199)", x.deaf(1, 199), 1);
        CHECK.due("deaf(1, 198)", x.deaf(1, 198), 0);
        CHECK.due("deaf(0, 4)", x.deaf(0, 4), 0);
    }

    private static void widening() {
        UpwardGrants x = new UpwardGrants();
        CHECK.refused(x, "widens(20)", () -> x.widens(20), -2);
        CHECK.refused(x, "widens(-1)", () -> x.widens(-1), -1);
        CHECK.refused(x, "widens(61)", () -> x.widens(61), -1);
        CHECK.due("widens(0)", x.widens(0), 20);
        CHECK.due("count(2)", x.count(2), 0);
        CHECK.due("widens(60)", x.widens(60), 0);
        CHECK.due("count(2)", x.count(2), 60);
        CHECK.due("count(11)", x.count(11), 2);
    }

    private static void undoing() {
        UpwardGrants x = Check.told("t1;t2;c0 0 3 9;c1 0 0 0;s9;b0;");
        x.comes(0, 30);
        x.deafens(0, 1, 4);
        String second = Check.shown(x);
        x.steps(3);
        String third = Check.shown(x);
        x.widens(50);
        x.sees(2, 2);
        x.type('q');
        CHECK.due("count(11)", x.count(11), 4);
        CHECK.due("undo() of widens", x.undo(), 3);
        x.forget();
        x.clear();
        same("behind undo() of widens", x, third);
        CHECK.due("undo() of steps", x.undo(), 2);
        same("behind undo() of steps", x, second);
        CHECK.due("undo() of deafens", x.undo(), 1);
        CHECK.due("deaf(0, 1)", x.deaf(0, 1), 0);
        CHECK.due("undo() of comes", x.undo(), 0);
        CHECK.due("nothing waits", x.sort(0, 4) + x.terminal(0, 1), 0);
        CHECK.refused(x, "undo() of nothing", x::undo, -2);
        CHECK.due("what is seen is not undone", seenBehindUndo(), 1);
    }

    private static int seenBehindUndo() {
        UpwardGrants x = Check.told("t1;");
        x.steps(1);
        x.sees(1, 0);
        x.undo();
        return x.count(9);
    }

    private static void same(String when, UpwardGrants x, String want) {
        CHECK.due(when + " all is as before: " + Check.shown(x) + "/ " + want, Check.shown(x).equals(want) ? 1 : 0, 1);
    }

    private static void undoKnowsEight() {
        UpwardGrants x = Check.told("t1;c0 0 0 0;");
        for (int i = 1; i <= 11; i++) {
            x.comes(0, i);
            CHECK.due("count(11) behind " + i, x.count(11), Math.min(i, 8));
        }
        x.comes(0, 0);
        x.widens(20);
        x.steps(0);
        x.deafens(0, 5, 4);
        CHECK.due("refused calls are not undone", x.count(11), 8);
        int waits = 66;
        for (int i = 11; i >= 4; i--) {
            CHECK.due("undo()", x.undo(), i - 4);
            waits -= i;
            CHECK.due("waits behind undo()", x.sort(0, 4), waits);
        }
        CHECK.refused(x, "undo() of a ninth", x::undo, -2);
        CHECK.due("comes(0, 5)", x.comes(0, 5), 11);
        CHECK.due("count(11)", x.count(11), 1);
        CHECK.due("undo()", x.undo(), 0);
        CHECK.due("waits", x.sort(0, 4), 6);
    }
}
