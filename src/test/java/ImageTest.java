/** Promises 20 to 22: keep, back, count. */
public final class ImageTest {
    private static final Check CHECK = new Check("ImageTest");

    public static void main(String[] args) {
        refusals();
        allComesBack();
        twoImages();
        notKept();
        counts();
        CHECK.end();
    }

    private static void refusals() {
        UpwardGrants x = Check.told("t1;c0 0 0 0;");
        x.comes(0, 5);
        x.steps(1);
        CHECK.refused(x, "keep(-1)", () -> x.keep(-1), -1);
        CHECK.refused(x, "keep(2)", () -> x.keep(2), -1);
        CHECK.refused(x, "back(-1)", () -> x.back(-1), -1);
        CHECK.refused(x, "back(2)", () -> x.back(2), -1);
        CHECK.refused(x, "back(0)", () -> x.back(0), -2);
        CHECK.refused(x, "back(1)", () -> x.back(1), -2);
        CHECK.refused(x, "keep(1) shows nothing", () -> x.keep(1), 1);
        CHECK.refused(x, "back(0) of the other", () -> x.back(0), -2);
        CHECK.due("count(11)", x.count(11), 2);
    }

    private static void allComesBack() {
        UpwardGrants x = Check.told("t1;t3;c0 0 3 9;c1 0 0 0;c0 2 1 8;s9;b0;r2 3;");
        x.comes(0, 30);
        x.comes(1, 9);
        x.comes(2, 9);
        x.deafens(0, 1, 7);
        x.steps(8);
        CHECK.due("keep(0)", x.keep(0), 8);
        String kept = Check.things(x);
        CHECK.due("blocks are on the way", x.count(7) > 0 ? 1 : 0, 1);
        CHECK.due("letters are lost", x.sort(0, 7) > 0 ? 1 : 0, 1);
        x.deafens(0, 20, 30);
        x.comes(1, 50);
        x.widens(33);
        x.steps(20);
        CHECK.due("back(0)", x.back(0), 8);
        CHECK.due("all is as kept", Check.things(x).equals(kept) ? 1 : 0, 1);
        CHECK.due("deaf(0, 20)", x.deaf(0, 20), 0);
        CHECK.due("deaf(0, 7)", x.deaf(0, 7), 1);
        CHECK.due("count(2)", x.count(2), 9);
        CHECK.due("count(11)", x.count(11), 0);
        CHECK.refused(x, "undo() behind back()", x::undo, -2);
        x.steps(3);
        CHECK.due("undo() of what came behind", x.undo(), 0);
        CHECK.due("all is as kept", Check.things(x).equals(kept) ? 1 : 0, 1);
        x.steps(5);
        CHECK.due("back(0) again", x.back(0), 8);
        CHECK.due("all is as kept", Check.things(x).equals(kept) ? 1 : 0, 1);
    }

    private static void twoImages() {
        UpwardGrants x = Check.told("t1;c0 0 0 0;");
        CHECK.due("keep(0)", x.keep(0), 0);
        x.steps(3);
        CHECK.due("keep(1)", x.keep(1), 3);
        x.steps(4);
        CHECK.due("undo()", x.undo(), 1);
        CHECK.due("undo()", x.undo(), 0);
        CHECK.due("an image is not undone", x.back(1), 3);
        CHECK.due("count(6)", x.count(6), 3);
        CHECK.due("back(0)", x.back(0), 0);
        CHECK.due("count(6)", x.count(6), 0);
        x.steps(9);
        CHECK.due("keep(0) anew", x.keep(0), 9);
        CHECK.due("back(1)", x.back(1), 3);
        CHECK.due("back(0)", x.back(0), 9);
        CHECK.due("count(6)", x.count(6), 9);
    }

    /** What is SEEN and THE TEXT are not of an image. */
    private static void notKept() {
        UpwardGrants x = Check.told("t1;c0 0 0 0;");
        x.sees(1, 0);
        x.type('a');
        x.keep(0);
        x.sees(2, 0);
        x.type('b');
        x.back(0);
        CHECK.due("count(9)", x.count(9), 2);
        CHECK.due("count(10)", x.count(10), 2);
    }

    private static void counts() {
        UpwardGrants x = Check.told("t1;t1;c0 0 0 0;s8;b1;r2 4;");
        x.comes(0, 9);
        x.deafens(0, 0, 1);
        x.steps(1);
        x.sees(1, 1);
        x.type(';');
        int[] due = {2, 1, 8, 1, 2, 4, 1, 1, 0, 1, 1, 3};
        for (int what = 0; what < due.length; what++) {
            CHECK.due("count(" + what + ")", x.count(what), due[what]);
        }
        CHECK.refused(x, "count(12)", () -> x.count(12), -1);
        CHECK.refused(x, "count(-1)", () -> x.count(-1), -1);
    }
}
