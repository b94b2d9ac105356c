/** The edges that the promises 20 to 22 name, and the order of the refusals, each sentence by itself. */
public final class ImageEdgeTest {
    private static final Check CHECK = new Check("ImageEdgeTest");

    private static final String ONE = "t1;c0 0 0 0;";
    private static final String BUSY = "t1;t4;c1 7 2 9;c0 3 1 5;c0 4 0 0;s10;b0;r1 4;";

    public static void main(String[] args) {
        twoImages();
        noneWasKept();
        keptOfNothing();
        keptAnew();
        answersNow();
        allComesBack();
        eachThingComesBack();
        lostAndAskedComesBack();
        nothingElseComesBack();
        nothingUndoneBehindBack();
        keepChangesNothing();
        imagesStay();
        imagesAreGone();
        countEdges();
        countsAtTheirEnds();
        badIsFirst();
        refusedOfAFullOne();
        refusedOfANewOne();
        CHECK.end();
    }

    private static Tale told(String says, String text) {
        return Tale.told(CHECK, says, text);
    }

    private static Tale busy(String says) {
        return told(says, BUSY).does("comes 0 3", "comes 1 30", "comes 2 40", "deafens 0 1 3", "steps 2");
    }

    // ---- promises 20 and 21: keep, back

    private static void twoImages() {
        String says = "IMAGES 0, 1";
        busy(says).bad("keep -1", "keep 2", "keep -2147483648", "keep 2147483647", "back -1", "back 2", "back -2147483648", "back 2147483647")
                .due("keep 0", 2).due("keep 1", 2).bad("keep 2", "back 2", "back -1", "keep -1").due("back 0", 2).due("back 1", 2);
        told(says, ONE).due("keep 0", 0).does("steps 3").due("keep 1", 3).does("steps 4").due("back 0", 0).due("count 6", 0)
                .due("back 1", 3).due("count 6", 3).due("back 0", 0).due("count 6", 0);
    }

    private static void noneWasKept() {
        String says = "STATE: none was kept";
        busy(says).refused("back 0", Tale.STATE).refused("back 1", Tale.STATE).does("keep 1").refused("back 0", Tale.STATE).due("back 1", 2);
        busy(says).does("keep 0").refused("back 1", Tale.STATE).due("back 0", 2).refused("back 1", Tale.STATE);
        Tale.fresh(CHECK, says).refused("back 0", Tale.STATE).refused("back 1", Tale.STATE);
    }

    private static void keptOfNothing() {
        Tale.fresh(CHECK, "An IMAGE is kept, without TERMINALS, too").due("keep 0", 0).does("widens 3", "steps 9").due("back 0", 0)
                .row("count", 2, 20, 2, 4, 3, 0, 0, Tale.NONE, 0, 0, 0);
    }

    private static void keptAnew() {
        told("An IMAGE is kept", ONE).does("keep 0", "steps 5", "keep 0", "steps 5").due("back 0", 5).does("steps 7").due("back 0", 5)
                .does("steps 7").due("back 0", 5).due("keep 0", 5);
    }

    private static void answersNow() {
        told("NOW", ONE).due("keep 0", 0).stepsTo(199).due("keep 1", 199).due("back 0", 0).due("count 6", 0).due("back 1", 199)
                .due("count 6", 199).refused("steps 1", Tale.STATE);
    }

    private static void allComesBack() {
        Tale before = busy("All of that becomes as an IMAGE has it");
        before.twin().does("keep 0", "comes 0 99", "deafens 1 5 199", "widens 60", "steps 40", "comes 2 1").due("back 0", 2)
                .isLike("as kept", before);
        Tale later = before.twin().does("widens 7", "steps 9");
        later.twin().does("keep 1", "undo", "undo", "undo").due("back 1", 11).isLike("an undone state, too", later);
        // What comes behind back() is not of the image.
        before.twin().does("keep 0", "back 0", "comes 0 99", "deafens 1 5 199", "widens 60", "steps 40", "back 0").isLike("as kept", before);
    }

    private static void eachThingComesBack() {
        String says = "all that 2 changes, and ROOM";
        for (String call : new String[] {"comes 0 99", "comes 1 1", "steps 1", "steps 3", "deafens 0 4 4", "deafens 1 2 199", "widens 0",
            "widens 60"}) {
            Tale before = busy(says + ": " + call);
            before.twin().does("keep 1", call, "back 1").isLike("as kept", before);
        }
    }

    /** It ASKED in vain, and letters are LOST; then it has its grant, and more is lost. */
    private static void lostAndAskedComesBack() {
        Tale before = told("all that 2 changes", "t1;t4;c1 7 2 9;c0 3 1 5;c0 4 0 0;s10;b0;r1 2;").does("comes 0 3", "comes 1 30",
                "comes 2 40", "deafens 0 0 4", "steps 2", "widens 0", "steps 1").due("terminal 0 3", 1).due("sort 1 7", 2);
        before.twin().does("keep 0", "widens 60", "steps 9").due("terminal 0 3", 0).due("sort 1 7", 4).due("back 0", 3)
                .isLike("as kept", before);
    }

    private static void nothingElseComesBack() {
        told("nothing else", ONE).does("sees 1 0", "type 97", "keep 0", "sees 2 0", "type 98", "back 0").due("count 9", 2)
                .due("count 10", 2).due("forget", 2).due("clear", 2).does("back 0").due("count 9", 0).due("count 10", 0);
        told("nothing else: an IMAGE is not in an IMAGE", ONE).does("keep 0", "steps 3", "keep 1", "back 0").due("back 1", 3);
    }

    private static void nothingUndoneBehindBack() {
        String says = "nothing can be UNDONE behind back()";
        busy(says).does("keep 0").due("count 11", 5).does("back 0").due("count 11", 0).refused("undo", Tale.STATE).does("steps 1")
                .due("count 11", 1).due("undo", 0).refused("undo", Tale.STATE).due("count 6", 2);
        told(says, ONE).times(9, "comes 0 1").does("keep 0", "back 0").due("count 11", 0).refused("undo", Tale.STATE)
                .times(9, "comes 0 1").due("count 11", 8).times(8, "undo").refused("undo", Tale.STATE).due("sort 0 4", 10);
    }

    private static void keepChangesNothing() {
        Tale before = busy("An IMAGE is kept");
        before.twin().does("keep 0").due("count 11", 5).isLike("else all is as before", before).due("undo", 4);
    }

    private static void imagesStay() {
        busy("IMAGES stay").does("keep 0", "undo", "undo").due("back 0", 2).due("back 0", 2).types("x").due("cell", -10).due("back 0", 2)
                .does("forget").due("clear", 1).due("back 0", 2);
    }

    private static void imagesAreGone() {
        busy("Read anew: IMAGES are gone").does("keep 0", "keep 1").due("cell", 0).refused("back 0", Tale.STATE).refused("back 1", Tale.STATE)
                .does("keep 1").refused("back 0", Tale.STATE).due("back 1", 0);
    }

    // ---- promise 22: count

    private static void countEdges() {
        Tale.fresh(CHECK, "count").bad("count -1", "count 12", "count -2147483648", "count 2147483647").due("count 0", 0).due("count 11", 0);
        busy("count").bad("count -1", "count 12");
    }

    private static void countsAtTheirEnds() {
        Tale.fresh(CHECK, "0 TERMINALS .. 11 how many may be UNDONE").row("count", 0, 0, 0, 20, 2, 4, 3, 0, 0, Tale.NONE, 0, 0, 0);
        busy("0 TERMINALS .. 11 how many may be UNDONE").row("count", 0, 2, 3, 10, 0, 1, 4, 2, 1, 0, 0, 0, 5);
        Tale tale = told("0 TERMINALS .. 11 how many may be UNDONE", "t1;t1;t1;" + "c2 0 0 0;".repeat(6) + "s60;b9;r6 4;")
                .row("count", 0, 3, 6, 60, 9, 6, 4, 0, 0, Tale.NONE, 0, 0, 0).stepsTo(199).does("comes 5 1", "comes 5 1", "comes 5 1")
                .does("sees 1 0", "sees 1 0", "sees 1 0", "sees 1 0").types(" ".repeat(120));
        tale.row("count", 0, 3, 6, 60, 9, 6, 4, 199, 0, Tale.NONE, 4, 120, 8);
        told("8 the TERMINAL that had a grant last (NONE)", "t1;t1;t1;c2 0 0 0;s1;").due("count 8", Tale.NONE).does("comes 0 1")
                .due("count 8", Tale.NONE).does("steps 1").due("count 8", 2).due("undo", 1).due("count 8", Tale.NONE);
    }

    // ---- the order of refusals: BAD, STATE, FULL

    private static void badIsFirst() {
        Tale.fresh(CHECK, "BAD ahead of FULL").types(" ".repeat(120)).bad("type -1", "type 256").refused("type 0", Tale.FULL)
                .refused("type 255", Tale.FULL);
        told("BAD ahead of FULL", ONE).times(10, "comes 0 99").does("comes 0 9").bad("comes 0 0", "comes 0 100", "comes 1 1", "comes -1 99")
                .refused("comes 0 1", Tale.FULL).refused("comes 0 99", Tale.FULL);
        told("BAD ahead of FULL", ONE).does("sees 1 0", "sees 1 0", "sees 1 0", "sees 1 0").bad("sees 0 0", "sees 41 0", "sees 1 -1", "sees 1 10000")
                .refused("sees 1 0", Tale.FULL).refused("sees 40 9999", Tale.FULL);
        told("BAD ahead of STATE", ONE).stepsTo(199).bad("steps 0", "steps 41", "steps -1").refused("steps 1", Tale.STATE)
                .refused("steps 40", Tale.STATE);
        told("BAD ahead of STATE", ONE).bad("back -1", "back 2").refused("back 0", Tale.STATE).refused("back 1", Tale.STATE);
    }

    /** 120 letters, 999 that WAIT, step 199, 8 that can be UNDONE, 4 SEEN: nothing of it changes behind what is refused. */
    private static void refusedOfAFullOne() {
        Tale tale = told("Refused, and nothing changes", "t1;t1;t1;c2 0 0 0;c0 1 2 9;s60;b0;r6 4;").does("comes 1 40", "deafens 0 3 199")
                .stepsTo(120).times(10, "comes 0 99").does("comes 0 9", "keep 1", "deafens 2 120 199").stepsTo(199)
                .does("comes 1 9", "widens 9", "comes 1 9", "comes 1 9", "comes 1 9", "widens 30").times(10, "comes 0 1")
                .does("sees 1 0", "sees 1 1", "sees 40 9", "sees 9 9999").types("t1;c0 1 1 1;" + " ".repeat(108));
        tale.due("sort 0 4", 999).row("count", 6, 199, 1, 2, 4, 120, 8);
        tale.bad("type -1", "type 256", "comes 0 0", "comes 2 1", "steps 0", "steps 41", "deafens 0 198 199", "deafens 0 199 200",
                "deafens 3 199 199", "widens -1", "widens 61", "sort 2 0", "sort 0 9", "terminal 3 0", "terminal 0 9", "block -1 0", "block 0 5",
                "deaf 3 0", "deaf 0 200", "enough 41", "ahead 2 1", "ahead 0 41", "sees 0 0", "sees 1 10000", "keep 2", "back 2", "count 12");
        tale.refused("type 32", Tale.FULL).refused("comes 0 1", Tale.FULL).refused("steps 1", Tale.STATE).refused("widens 30", Tale.STATE)
                .refused("sees 1 0", Tale.FULL).refused("back 0", Tale.STATE);
    }

    private static void refusedOfANewOne() {
        Tale.fresh(CHECK, "there is no such thing").bad("comes 0 1", "deafens 0 0 0", "sort 0 0", "terminal 0 0", "deaf 0 0", "ahead 0 1",
                        "steps 0", "widens 61", "enough -1", "sees 0 0", "keep -1", "back -1", "count -1", "block -1 0", "type 256")
                .refused("undo", Tale.STATE).refused("back 0", Tale.STATE).refused("widens 20", Tale.STATE);
    }
}
