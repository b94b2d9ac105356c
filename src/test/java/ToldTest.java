/** Promises 1 to 4: a new object, type, clear, cell. */
public final class ToldTest {
    private static final Check CHECK = new Check("ToldTest");

    public static void main(String[] args) {
        newObject();
        typing();
        clearing();
        rightTexts();
        faults();
        longTexts();
        readAnew();
        faultChangesNothing();
        CHECK.end();
    }

    private static void newObject() {
        UpwardGrants x = new UpwardGrants();
        int[] counts = {0, 0, 20, 2, 4, 3, 0, 0, -9, 0, 0, 0};
        for (int what = 0; what < counts.length; what++) {
            CHECK.due("new: count(" + what + ")", x.count(what), counts[what]);
        }
        CHECK.due("new: sort(0, 0)", x.sort(0, 0), -1);
        CHECK.due("new: terminal(0, 0)", x.terminal(0, 0), -1);
        CHECK.due("new: deaf(0, 0)", x.deaf(0, 0), -1);
        CHECK.due("new: comes(0, 1)", x.comes(0, 1), -1);
        CHECK.due("new: deafens(0, 0, 0)", x.deafens(0, 0, 0), -1);
        CHECK.due("new: ahead(0, 1)", x.ahead(0, 1), -1);
        CHECK.due("new: block(0, 0)", x.block(0, 0), -9);
        CHECK.due("new: drain()", x.drain(), 0);
        CHECK.due("new: enough(0)", x.enough(0), 0);
        CHECK.due("new: unseen()", x.unseen(), 0);
        CHECK.due("new: forget()", x.forget(), 0);
        CHECK.due("new: undo()", x.undo(), -2);
        CHECK.due("new: back(0)", x.back(0), -2);
        CHECK.due("new: back(1)", x.back(1), -2);
        CHECK.due("new: clear()", x.clear(), 0);
        CHECK.due("new: steps(40)", x.steps(40), 0);
        CHECK.due("new: count(6)", x.count(6), 40);
    }

    private static void typing() {
        UpwardGrants x = new UpwardGrants();
        CHECK.due("type(0)", x.type(0), 1);
        CHECK.due("type(255)", x.type(255), 2);
        CHECK.refused(x, "type(-1)", () -> x.type(-1), -1);
        CHECK.refused(x, "type(256)", () -> x.type(256), -1);
        for (int i = 3; i <= 120; i++) {
            CHECK.due("type(32)", x.type(32), i);
        }
        CHECK.refused(x, "the 121st type(32)", () -> x.type(32), -3);
        CHECK.refused(x, "type(256) of a full text", () -> x.type(256), -1);
        CHECK.due("count(10)", x.count(10), 120);
    }

    private static void clearing() {
        UpwardGrants x = new UpwardGrants();
        Check.write(x, "t1;x");
        CHECK.due("clear()", x.clear(), 4);
        CHECK.due("count(10)", x.count(10), 0);
        CHECK.due("clear() again", x.clear(), 0);
        Check.write(x, "s7;");
        CHECK.due("cell() behind clear()", x.cell(), 1);
        CHECK.due("count(2)", x.count(2), 7);
        CHECK.due("count(10) behind cell()", x.count(10), 0);
    }

    private static void answers(String text, int want) {
        UpwardGrants x = new UpwardGrants();
        Check.write(x, text);
        CHECK.due("cell() of '" + text + "'", x.cell(), want);
        CHECK.due("count(10) behind '" + text + "'", x.count(10), want < 0 ? text.length() : 0);
    }

    private static void rightTexts() {
        answers("", 0);
        answers("    ", 0);
        answers("t1;", 1);
        answers("t9;", 1);
        answers("  t  1  ;  ", 1);
        answers("t1;t2;t3;", 3);
        answers("t1;c0 0 0 0;", 2);
        answers("t1;c 0 9 20 60 ;", 2);
        answers("s0;s60;", 2);
        answers("b0;b9;", 2);
        answers("r1 1;r6 4;", 2);
        answers("t1;c0 1 2 3;c0 1 2 3;c0 1 2 3;c0 1 2 3;c0 1 2 3;c0 1 2 3;", 7);

        UpwardGrants x = Check.told("s5;b1;t4;r1 1;t7;s9;c1 9 20 60;b0;r2 3;c0 3 0 1;");
        int[] counts = {2, 2, 9, 0, 2, 3, 0};
        for (int what = 0; what < counts.length; what++) {
            CHECK.due("told: count(" + what + ")", x.count(what), counts[what]);
        }
        CHECK.due("told: terminal(0, 0)", x.terminal(0, 0), 4);
        CHECK.due("told: terminal(1, 0)", x.terminal(1, 0), 7);
        int[][] sorts = {{1, 9, 20, 60, 0, 0, 0, 0, 0}, {0, 3, 0, 1, 0, 0, 0, 0, 0}};
        for (int c = 0; c < 2; c++) {
            for (int what = 0; what <= 8; what++) {
                CHECK.due("told: sort(" + c + ", " + what + ")", x.sort(c, what), sorts[c][what]);
            }
        }
    }

    private static void faults() {
        answers(";", -10);
        answers("5;", -10);
        answers("  x", -12);
        answers("T1;", -10);
        answers("t", -11);
        answers("t  ", -13);
        answers("t1", -12);
        answers("t1 ", -13);
        answers("t;", -11);
        answers("t1;;", -13);
        answers("t0;", -11);
        answers("t10;", -11);
        answers("t01;", -11);
        answers("t00;", -11);
        answers("t 100;", -12);
        answers("t1 1;", -13);
        answers("tt1;", -11);
        answers("t1x;", -12);
        answers("t1,", -12);
        answers("t\t1;", -11);
        answers("t-1;", -11);
        answers("t1;" + (char) 0, -13);
        answers("t1;" + (char) 255, -13);
        answers("t1;t1;t1;t1;", -19);
        answers("t1;t1;t1;t", -19);
        answers("t1;t1;t1; tx", -20);
        answers("c0 0 0 0;", -11);
        answers("c0 0 0 0;t1;", -11);
        answers("t1;c1 0 0 0;t1;", -14);
        answers("t1;c", -14);
        answers("t1;c0 10 0 0;", -16);
        answers("t1;c0 0 21 0;", -18);
        answers("t1;c0 0 0 61;", -20);
        answers("t1;c0 0 0;", -19);
        answers("t1;c0 0 0 0 0;", -22);
        answers("t1;c0123;", -14);
        answers("t1;c0 0 0 0", -21);
        answers("s61;", -11);
        answers("s100;", -11);
        answers("s00;", -11);
        answers("s060;", -11);
        answers("s;", -11);
        answers("s99999999999999999999;", -11);
        answers("s4294967301;", -11);
        answers("s5s6;", -12);
        answers("s5 5x", -13);
        answers("b10;", -11);
        answers("b;", -11);
        answers("b1 1;", -13);
        answers("r0 1;", -11);
        answers("r7 1;", -11);
        answers("r1 0;", -13);
        answers("r1 5;", -13);
        answers("r4;", -12);
        answers("r11;", -11);
        answers("r1 1 1;", -15);
    }

    private static void longTexts() {
        String six = "t1;c0 0 0 0;c0 0 0 0;c0 0 0 0;c0 0 0 0;c0 0 0 0;c0 0 0 0;";
        answers(six + "c0 0 0 0;", -67);
        answers(six + "c", -67);
        answers(six + " c", -68);
        answers("s1;".repeat(40), 40);
        answers("s1;".repeat(39) + "s1 ", -130);
        answers(" ".repeat(119) + "x", -129);
        answers(" ".repeat(120), 0);
    }

    private static void readAnew() {
        UpwardGrants x = Check.told("t1;c0 0 5 5;s9;b1;r1 1;");
        x.comes(0, 20);
        x.deafens(0, 2, 9);
        x.steps(3);
        x.widens(30);
        x.sees(3, 3);
        x.keep(0);
        x.keep(1);
        Check.write(x, "t2;c0 1 2 3;");
        CHECK.due("cell() anew", x.cell(), 2);
        int[] counts = {1, 1, 20, 2, 4, 3, 0, 0, -9, 0, 0, 0};
        for (int what = 0; what < counts.length; what++) {
            CHECK.due("anew: count(" + what + ")", x.count(what), counts[what]);
        }
        int[] terminal = {2, 0, 0, 0, 0, 0, 0, 0, 0};
        int[] sort = {0, 1, 2, 3, 0, 0, 0, 0, 0};
        for (int what = 0; what <= 8; what++) {
            CHECK.due("anew: terminal(0, " + what + ")", x.terminal(0, what), terminal[what]);
            CHECK.due("anew: sort(0, " + what + ")", x.sort(0, what), sort[what]);
        }
        for (int step = 0; step <= 199; step++) {
            CHECK.due("anew: deaf(0, " + step + ")", x.deaf(0, step), 0);
        }
        CHECK.due("anew: back(0)", x.back(0), -2);
        CHECK.due("anew: back(1)", x.back(1), -2);
        CHECK.due("anew: undo()", x.undo(), -2);
        CHECK.due("anew: cell() of nothing", x.cell(), 0);
        CHECK.due("anew: count(0)", x.count(0), 0);
        CHECK.due("anew: count(1)", x.count(1), 0);
    }

    private static void faultChangesNothing() {
        UpwardGrants x = Check.told("t1;c0 0 5 5;s9;b1;r1 1;");
        x.comes(0, 20);
        x.deafens(0, 2, 9);
        x.steps(3);
        x.sees(3, 3);
        x.keep(1);
        Check.write(x, "t5;s30;r9 9;");
        CHECK.refused(x, "cell() of a fault", x::cell, -18);
        CHECK.due("deaf(0, 9)", x.deaf(0, 9), 1);
        CHECK.due("clear()", x.clear(), 12);
        CHECK.due("back(1)", x.back(1), 3);
    }
}
