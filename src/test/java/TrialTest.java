/** Promises 14 to 19: drain, enough, ahead, sees, forget, unseen. */
public final class TrialTest {
    private static final Check CHECK = new Check("TrialTest");

    public static void main(String[] args) {
        draining();
        drainingBehindTheEnd();
        enoughRoom();
        whatComesAhead();
        nothingChanges();
        seeing();
        unseenTerminals();
        unseenAsThingsAreNow();
        unseenAtTheEnd();
        CHECK.end();
    }

    private static void draining() {
        UpwardGrants x = Check.told("t1;c0 0 0 0;s4;b0;r6 4;");
        CHECK.due("drain() of nothing", x.drain(), 0);
        x.comes(0, 9);
        // 2, then 4, then 3 letters.
        CHECK.due("drain() of 9", x.drain(), 3);
        x.deafens(0, 2, 2);
        // The 3 of step 2 are on the way till 8.
        CHECK.due("drain() of 9, not heard", x.drain(), 9);
        x.steps(3);
        CHECK.due("nothing waits, a block is on the way", x.drain(), 6);
        x.widens(0);
        CHECK.due("blocks are sent again without room", x.drain(), 6);
        x.comes(0, 1);
        CHECK.due("no room, never", x.drain(), -9);

        UpwardGrants y = Check.told("t1;c0 0 0 0;s60;b0;r6 4;");
        for (int letters = 1; letters <= 4; letters++) {
            y.comes(0, 1);
        }
        y.widens(2);
        CHECK.due("a report alone, then 2, 2", y.drain(), 3);
    }

    /** The least n told is 100 at most; steps go on above 199, and nobody is deaf there. */
    private static void drainingBehindTheEnd() {
        UpwardGrants x = Check.told("t1;c0 0 0 0;s1;b0;");
        x.comes(0, 99);
        x.comes(0, 1);
        CHECK.due("100 steps, a letter each", x.drain(), 100);
        x.comes(0, 1);
        CHECK.due("101 are too many", x.drain(), -9);

        UpwardGrants y = Check.told("t1;c0 0 0 0;s60;b0;r1 1;");
        for (int i = 0; i < 5; i++) {
            y.steps(39);
        }
        y.deafens(0, 195, 199);
        y.comes(0, 30);
        // 2 letters are lost in each of 195 to 199; 2 of the 20 come in 200, the rest in 201.
        CHECK.due("drain() over 199", y.drain(), 7);
        CHECK.due("ahead(0, 5)", y.ahead(0, 5), 0);
        CHECK.due("ahead(0, 7)", y.ahead(0, 7), 20);
    }

    private static void enoughRoom() {
        UpwardGrants x = Check.told("t1;c0 0 0 0;s0;b0;");
        CHECK.due("enough(0) of nothing", x.enough(0), 0);
        x.comes(0, 10);
        CHECK.due("enough(0)", x.enough(0), -9);
        CHECK.due("enough(1)", x.enough(1), -9);
        CHECK.due("enough(2)", x.enough(2), 8);
        CHECK.due("enough(3)", x.enough(3), 4);
        CHECK.due("enough(9)", x.enough(9), 2);
        CHECK.due("enough(10)", x.enough(10), 1);
        CHECK.due("enough(40)", x.enough(40), 1);
        CHECK.refused(x, "enough(-1)", () -> x.enough(-1), -1);
        CHECK.refused(x, "enough(41)", () -> x.enough(41), -1);
        x.widens(60);
        CHECK.due("enough(2) of another room", x.enough(2), 8);

        UpwardGrants y = Check.told("t1;c0 0 0 0;b0;");
        for (int i = 0; i < 6; i++) {
            y.comes(0, 10);
        }
        // 2 letters, then 58 in 60; with 59 one is left.
        CHECK.due("enough(2) of 60", y.enough(2), 58);
        y.comes(0, 2);
        CHECK.due("enough(2) of 62", y.enough(2), 60);
        y.comes(0, 1);
        CHECK.due("enough(2) of 63", y.enough(2), -9);
    }

    private static void whatComesAhead() {
        UpwardGrants x = Check.told("t1;c0 5 0 0;c0 1 0 0;s6;b0;r2 2;");
        x.comes(0, 10);
        x.comes(1, 5);
        x.steps(1);
        CHECK.due("through of 1 till now", x.sort(1, 6), 2);
        CHECK.due("ahead(1, 1)", x.ahead(1, 1), 3);
        CHECK.due("ahead(0, 1)", x.ahead(0, 1), 3);
        CHECK.due("ahead(0, 2)", x.ahead(0, 2), 9);
        CHECK.due("ahead(0, 40)", x.ahead(0, 40), 10);
        x.deafens(0, 1, 1);
        CHECK.due("ahead(0, 1), not heard", x.ahead(0, 1), 0);
        CHECK.due("ahead(0, 2), not heard", x.ahead(0, 2), 6);
        CHECK.due("ahead(0, 3), not heard", x.ahead(0, 3), 9);
        CHECK.refused(x, "ahead(0, 0)", () -> x.ahead(0, 0), -1);
        CHECK.refused(x, "ahead(0, 41)", () -> x.ahead(0, 41), -1);
        CHECK.refused(x, "ahead(2, 1)", () -> x.ahead(2, 1), -1);
        CHECK.refused(x, "ahead(-1, 1)", () -> x.ahead(-1, 1), -1);
    }

    private static void nothingChanges() {
        UpwardGrants x = Check.told("t1;t2;c0 5 1 9;c1 1 2 9;s6;b0;r2 2;");
        x.comes(0, 20);
        x.comes(1, 20);
        x.deafens(1, 1, 3);
        x.steps(3);
        x.sees(7, 7);
        String before = Check.shown(x);
        x.drain();
        x.enough(20);
        x.ahead(1, 9);
        x.unseen();
        CHECK.due("nothing is changed", Check.shown(x).equals(before) ? 1 : 0, 1);
        CHECK.due("nobody more is deaf", x.deaf(0, 3) + x.deaf(1, 4), 0);
    }

    private static void seeing() {
        UpwardGrants x = new UpwardGrants();
        CHECK.refused(x, "sees(0, 0)", () -> x.sees(0, 0), -1);
        CHECK.refused(x, "sees(41, 0)", () -> x.sees(41, 0), -1);
        CHECK.refused(x, "sees(1, -1)", () -> x.sees(1, -1), -1);
        CHECK.refused(x, "sees(1, 10000)", () -> x.sees(1, 10000), -1);
        CHECK.due("sees(1, 0)", x.sees(1, 0), 1);
        CHECK.due("sees(40, 9999)", x.sees(40, 9999), 2);
        CHECK.due("sees(1, 0) again", x.sees(1, 0), 3);
        CHECK.due("sees(2, 0)", x.sees(2, 0), 4);
        CHECK.refused(x, "a fifth sees(1, 0)", () -> x.sees(1, 0), -3);
        CHECK.refused(x, "a fifth sees(0, 0)", () -> x.sees(0, 0), -1);
        CHECK.due("no terminal, no bits", x.unseen(), 0);
        CHECK.due("forget()", x.forget(), 4);
        CHECK.due("count(9)", x.count(9), 0);
        CHECK.due("forget() again", x.forget(), 0);
        CHECK.due("sees(1, 0) behind forget()", x.sees(1, 0), 1);
    }

    private static void unseenTerminals() {
        UpwardGrants x = Check.told("t1;t1;t1;c0 0 0 0;c1 0 0 0;c1 0 0 0;s60;b9;r1 4;");
        CHECK.due("nothing is seen", x.unseen(), 7);
        x.comes(0, 10);
        x.comes(1, 4);
        x.comes(2, 6);
        // Each is heard with 2 letters in the first step, with the rest in the second.
        x.sees(1, 2);
        CHECK.due("one of two in the first", x.unseen(), 3);
        x.sees(2, 10);
        CHECK.due("10 in two", x.unseen(), 3);
        x.forget();
        x.sees(2, 20);
        CHECK.due("all came", x.unseen(), 4);
        x.sees(1, 2);
        CHECK.due("not both", x.unseen(), 0);
        x.forget();
        x.comes(1, 1);
        x.sees(2, 10);
        CHECK.due("10 are the first one's", x.unseen(), 2);
        x.forget();
        x.sees(2, 11);
        CHECK.due("11 are the second one's", x.unseen(), 1);
        // Those that are deaf are deaf beside the unknown one.
        x.deafens(0, 0, 9);
        x.forget();
        x.sees(2, 11);
        CHECK.due("the first is deaf anyhow", x.unseen(), 5);
        x.forget();
        x.sees(2, 0);
        CHECK.due("both are deaf", x.unseen(), 2);
    }

    /** It is the same number of steps and letters, asked again of things as they are NOW. */
    private static void unseenAsThingsAreNow() {
        UpwardGrants x = Check.told("t1;t1;c0 0 0 0;c1 0 0 0;s60;b9;r1 4;");
        x.comes(0, 10);
        x.comes(1, 4);
        x.sees(1, 2);
        CHECK.due("first", x.unseen(), 3);
        x.steps(1);
        // Now 8 of the first and 2 of the second would come.
        CHECK.due("then", x.unseen(), 1);
        x.undo();
        CHECK.due("first again", x.unseen(), 3);
    }

    private static void unseenAtTheEnd() {
        UpwardGrants x = Check.told("t1;c0 0 0 0;s60;b0;r1 1;");
        for (int i = 0; i < 5; i++) {
            x.steps(39);
        }
        x.comes(0, 30);
        x.sees(5, 0);
        CHECK.due("deaf till 199", x.unseen(), 1);
        x.sees(7, 20);
        CHECK.due("not deaf in 200, 201", x.unseen(), 1);
        x.sees(6, 2);
        CHECK.due("2 in 200", x.unseen(), 1);
        x.sees(40, 0);
        CHECK.due("never deaf above 199", x.unseen(), 0);
    }
}
