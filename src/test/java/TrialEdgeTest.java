/** The edges that part 3 of the terms and the promises 14 to 19 name, each sentence by itself. */
public final class TrialEdgeTest {
    private static final Check CHECK = new Check("TrialEdgeTest");

    private static final String ONE = "t1;c0 0 0 0;";
    private static final String THREE = "t1;t1;t1;c0 0 0 0;c1 0 0 0;c2 0 0 0;";

    public static void main(String[] args) {
        drainedNow();
        drainedInOne();
        blocksAreNotDrained();
        letterAndBlockAreNotDrained();
        reportsAreNotDrained();
        lostIsDrained();
        drainedInAHundred();
        neverDrained();
        drainsAboveTheLastStep();
        enoughForSoMany();
        enoughForNone();
        noRoomIsEnough();
        mostRoomIsEnough();
        enoughInSomeNumber();
        enoughThoughNotInTheLast();
        leastThoughMoreIsNotEnough();
        enoughFromNowOn();
        enoughAboveTheLastStep();
        aheadForSoMany();
        aheadOfAClass();
        aheadOfOneAlone();
        aheadAboveTheLastStep();
        seesSoMany();
        seesFour();
        forgets();
        unseenOfNothing();
        unseenBits();
        unseenByAll();
        unseenEnds();
        unseenUpToTheLastStep();
        unseenBesideOthers();
        unseenWithoutLetters();
        asThingsAreNow();
        seenStays();
        nothingIsChanged();
        CHECK.end();
    }

    private static Tale told(String says, String text) {
        return Tale.told(CHECK, says, text);
    }

    private static Tale coming(String says, String text, int letters) {
        Tale tale = told(says, text).times(letters / 99, "comes 0 99");
        return letters % 99 > 0 ? tale.does("comes 0 " + letters % 99) : tale;
    }

    // ---- promise 14: drain

    private static void drainedNow() {
        Tale.fresh(CHECK, "(0: now)").due("drain", 0);
        told("(0: now)", ONE + "s0;").due("drain", 0).does("steps 40").due("drain", 0).does("comes 0 1").due("drain", Tale.NONE)
                .due("undo", 1).due("drain", 0);
        told("(0: now)", ONE).does("comes 0 2", "steps 1").due("drain", 0);
    }

    private static void drainedInOne() {
        told("nothing WAITS behind n STEPS", ONE).does("comes 0 1").due("drain", 1).does("comes 0 1").due("drain", 1)
                .does("comes 0 1").due("drain", 2);
    }

    private static void blocksAreNotDrained() {
        told("and no BLOCK is ON THE WAY", ONE + "b9;r6 4;").does("comes 0 2", "deafens 0 0 0").due("drain", 7).does("steps 1")
                .due("sort 0 4", 0).due("drain", 6).does("steps 5").due("drain", 1).does("steps 1").due("drain", 0);
    }

    private static void letterAndBlockAreNotDrained() {
        told("nothing WAITS, and no BLOCK is ON THE WAY", ONE + "b9;r6 4;").does("comes 0 3", "deafens 0 0 0", "steps 1").due("count 7", 1)
                .due("sort 0 4", 1).due("drain", 6).due("enough 0", Tale.NONE);
    }

    private static void reportsAreNotDrained() {
        told("and no BLOCK is ON THE WAY", ONE + "s60;b0;r1 2;").does("comes 0 2", "deafens 0 0 5", "steps 3")
                .row("block 0", 0, 0, 3, 1, 2, 0).due("sort 0 8", 0).due("sort 0 4", 0).due("drain", 1);
    }

    private static void lostIsDrained() {
        told("LOST with its letters: they do not WAIT", ONE + "b9;r1 1;").does("comes 0 2", "deafens 0 0 199").due("drain", 1)
                .does("steps 1").due("drain", 0).due("sort 0 7", 2);
    }

    private static void drainedInAHundred() {
        String says = "the least such n (0 .. 100)";
        coming(says, ONE + "s1;b0;", 99).due("drain", 99);
        coming(says, ONE + "s1;b0;", 100).due("drain", 100);
        coming(says, ONE + "s1;b0;", 101).due("drain", Tale.NONE).does("steps 1").due("drain", 100);
    }

    private static void neverDrained() {
        told("NONE", ONE + "s0;").does("comes 0 1").due("drain", Tale.NONE);
        told("NONE", ONE + "s0;").does("comes 0 1", "widens 1").due("drain", 1).does("widens 0").due("drain", Tale.NONE);
    }

    private static void drainsAboveTheLastStep() {
        coming("n STEPS, above 199, too", ONE + "s1;b0;", 100).stepsTo(199).due("drain", 0);
        told("n STEPS, above 199, too", ONE + "s1;b0;").stepsTo(199).times(1, "comes 0 99", "comes 0 1").due("drain", 100)
                .does("comes 0 1").due("drain", Tale.NONE).due("count 6", 199);
    }

    // ---- promise 15: enough

    private static void enoughForSoMany() {
        coming("ENOUGH for n (0 .. 40)", ONE + "b0;", 40).due("enough 0", Tale.NONE).due("enough 1", Tale.NONE).due("enough 40", 1)
                .due("enough 39", 2).bad("enough -1", "enough 41", "enough -2147483648", "enough 2147483647");
        coming("ENOUGH for n (0 .. 40)", ONE + "b0;", 41).due("enough 40", 2);
    }

    private static void enoughForNone() {
        Tale.fresh(CHECK, "from 0").due("enough 0", 0).due("enough 40", 0);
        told("from 0", ONE + "s60;").due("enough 0", 0).does("comes 0 1").due("enough 0", Tale.NONE);
        told("from 0: a BLOCK is ON THE WAY", ONE + "s60;").does("comes 0 2", "deafens 0 0 0", "steps 1").due("sort 0 4", 0)
                .due("enough 0", Tale.NONE);
    }

    private static void noRoomIsEnough() {
        told("the least ROOM (0 .. 60)", ONE + "s60;b9;r6 4;").does("comes 0 2", "deafens 0 0 0", "steps 1").due("enough 5", Tale.NONE)
                .due("enough 6", 0).due("enough 40", 0);
    }

    private static void mostRoomIsEnough() {
        String says = "the least ROOM (0 .. 60)";
        coming(says, ONE, 61).due("enough 2", 59);
        coming(says, ONE, 62).due("enough 2", 60);
        coming(says, ONE, 63).due("enough 2", Tale.NONE).due("enough 3", 31);
    }

    private static void enoughInSomeNumber() {
        // 1 a step; or a report and 2 a step; or a report and 1, and 3 a step; and so on.
        Tale tale = coming("in some number of STEPS from 0 to n", ONE + "b0;", 10);
        int[] rooms = {Tale.NONE, Tale.NONE, 8, 4, 3, 3, 2, 2, 2, 2, 1, 1};
        for (int n = 0; n < rooms.length; n++) {
            tale.due("enough " + n, rooms[n]);
        }
        coming("in some number of STEPS from 0 to n", ONE + "b0;", 2).due("enough 1", 4).due("enough 2", 1);
    }

    /** It is DRAINED in 2 STEPS; in the third the other one's report is not heard, so that in 3 it is not. */
    private static void enoughThoughNotInTheLast() {
        told("in some number of STEPS from 0 to n", "t1;t9;c0 0 0 0;c1 0 0 0;s60;b0;r1 2;").does("comes 1 2", "deafens 1 0 199").stepsTo(8)
                .due("terminal 1 1", 1).due("drain", 0).does("comes 0 9").due("drain", 2).due("enough 2", 7).due("enough 3", 7)
                .does("steps 3").due("count 7", 1).due("terminal 0 5", 0);
    }

    /** With a ROOM of 2 the report alone goes up at first. */
    private static void leastThoughMoreIsNotEnough() {
        coming("the least ROOM", ONE + "s2;b0;", 1).due("drain", 2).due("enough 1", 1);
        coming("the least ROOM", ONE + "s1;b0;", 1).due("drain", 1).due("enough 1", 1);
    }

    private static void enoughFromNowOn() {
        coming("the least ROOM by which (from NOW on)", ONE + "s60;b0;", 10).does("steps 1").due("enough 1", 8).due("enough 2", 4)
                .does("widens 0").due("enough 1", 8).due("count 2", 0);
    }

    private static void enoughAboveTheLastStep() {
        told("n STEPS, above 199, too", ONE + "b0;").stepsTo(199).does("comes 0 40").due("enough 40", 1).due("enough 39", 2);
    }

    // ---- promise 16: ahead

    private static void aheadForSoMany() {
        coming("in the next n STEPS (1 .. 40)", ONE + "s1;b0;", 41).due("ahead 0 1", 1).due("ahead 0 2", 2).due("ahead 0 39", 39)
                .due("ahead 0 40", 40).bad("ahead 0 0", "ahead 0 41", "ahead 0 -1", "ahead 0 -2147483648", "ahead 0 2147483647")
                .does("steps 1").due("ahead 0 40", 40).does("steps 1").due("ahead 0 40", 39);
    }

    private static void aheadOfAClass() {
        told("of a CLASS", "t1;" + "c0 0 0 0;".repeat(6)).does("comes 5 2").due("ahead 5 1", 2).due("ahead 0 1", 0)
                .bad("ahead -1 1", "ahead 6 1", "ahead 2147483647 1", "ahead -2147483648 1", "ahead 6 41");
        told("of a CLASS: there is none", "t1;").bad("ahead 0 1");
    }

    private static void aheadOfOneAlone() {
        told("What would be THROUGH of a CLASS", "t1;c0 0 0 0;c0 1 0 0;").does("comes 0 1", "comes 1 9").due("ahead 0 1", 1)
                .due("ahead 1 1", 1).due("ahead 0 2", 1).due("ahead 1 2", 9).does("steps 1").due("ahead 0 40", 0).due("ahead 1 1", 8);
    }

    private static void aheadAboveTheLastStep() {
        told("n STEPS, above 199, too", ONE + "s1;b0;").stepsTo(199).does("comes 0 41").due("ahead 0 1", 1).due("ahead 0 40", 40);
    }

    // ---- promises 17 to 19: sees, forget, unseen

    private static void seesSoMany() {
        String says = "the next n STEPS (1 .. 40), BAD (m 0 .. 9999)";
        told(says, ONE).bad("sees 0 0", "sees 41 0", "sees -1 0", "sees 1 -1", "sees 1 10000", "sees 0 10000", "sees 2147483647 0",
                "sees -2147483648 0", "sees 1 2147483647", "sees 1 -2147483648").due("sees 1 0", 1).due("sees 40 9999", 2)
                .due("sees 1 9999", 3).due("sees 40 0", 4);
        Tale.fresh(CHECK, says).bad("sees 0 0", "sees 41 0", "sees 1 -1", "sees 1 10000").due("sees 40 9999", 1).due("count 9", 1);
    }

    private static void seesFour() {
        told("SEEN (4 at most): how much there is", ONE).due("sees 1 0", 1).due("sees 1 0", 2).due("sees 1 0", 3).due("count 9", 3)
                .due("sees 1 0", 4).refused("sees 1 0", Tale.FULL).refused("sees 40 9999", Tale.FULL).bad("sees 0 0", "sees 1 10000")
                .due("count 9", 4).due("forget", 4).due("sees 1 0", 1);
    }

    private static void forgets() {
        told("Nothing is SEEN: how much was", ONE).due("forget", 0).does("comes 0 9", "sees 1 9").due("unseen", 0).due("forget", 1)
                .due("count 9", 0).due("unseen", 1).due("forget", 0).does("sees 1 0", "sees 1 0", "sees 1 0", "sees 1 0")
                .due("forget", 4).due("sees 1 9", 1).due("unseen", 0);
        Tale before = told("forget() changes what is SEEN alone", ONE).does("comes 0 9", "steps 1");
        before.twin().does("sees 1 9", "forget").isLike("as before", before);
    }

    private static void unseenOfNothing() {
        String says = "TERMINALS (bits) by which all that was SEEN is so";
        Tale.fresh(CHECK, says).due("unseen", 0).does("sees 1 0").due("unseen", 0);
        told(says, "t1;").due("unseen", 1).does("sees 40 0").due("unseen", 1).does("sees 40 1").due("unseen", 0);
        told(says, "t1;t1;").due("unseen", 3).does("sees 40 0").due("unseen", 3);
        told(says, "t1;t1;t1;").due("unseen", 7).does("sees 40 0").due("unseen", 7).does("sees 1 9999").due("unseen", 0);
    }

    /** 3, 4 and 5 letters, of which 2 each come in the first step, all others in the second. */
    private static Tale three(String says) {
        return told(says, THREE + "s60;b9;r1 4;").does("comes 0 3", "comes 1 4", "comes 2 5");
    }

    private static void unseenBits() {
        String says = "one unknown TERMINAL being DEAF in all of these";
        three(says).does("sees 2 9").due("unseen", 1);
        three(says).does("sees 2 8").due("unseen", 2);
        three(says).does("sees 2 7").due("unseen", 4);
        three(says).does("sees 1 4").due("unseen", 7);
        three("one is DEAF, not none").does("sees 2 12").due("unseen", 0);
        three("one is DEAF, not two").does("sees 2 5").due("unseen", 0);
        three("as many, no more nor fewer").does("sees 1 3").due("unseen", 0);
        three("as many, no more nor fewer").does("sees 1 5").due("unseen", 0);
    }

    private static void unseenByAll() {
        String says = "by which all that was SEEN is so";
        three(says).does("sees 2 9", "sees 1 4", "sees 1 4", "sees 1 4").due("unseen", 1);
        three(says).does("sees 1 4", "sees 2 9", "sees 1 4", "sees 1 4").due("unseen", 1);
        three(says).does("sees 1 4", "sees 1 4", "sees 2 8", "sees 1 4").due("unseen", 2);
        three(says).does("sees 1 4", "sees 1 4", "sees 1 4", "sees 2 7").due("unseen", 4);
        three(says).does("sees 2 9", "sees 2 8").due("unseen", 0);
        three(says).does("sees 2 9", "sees 2 9", "sees 2 9", "sees 1 5").due("unseen", 0);
    }

    private static void unseenEnds() {
        String says = "in the next n STEPS (1 .. 40) m letters would be THROUGH";
        told(says, ONE + "s60;b0;r1 1;").does("comes 0 99", "sees 40 0").due("unseen", 1).does("sees 1 0").due("unseen", 1)
                .does("sees 40 1").due("unseen", 0);
        // What the other one has comes by 1 a step.
        told(says, "t1;t1;c0 0 0 0;s1;b0;").does("comes 0 60", "sees 40 40", "sees 39 39", "sees 1 1").due("unseen", 2)
                .does("sees 40 41").due("unseen", 0);
    }

    private static void unseenUpToTheLastStep() {
        String says = "DEAF in all of these (up to 199)";
        Tale last = told(says, ONE + "b9;r1 4;").stepsTo(199).does("comes 0 2");
        last.twin().does("sees 1 0").due("unseen", 1).does("sees 2 2").due("unseen", 1).does("sees 40 2").due("unseen", 1)
                .does("sees 2 0").due("unseen", 0);
        last.twin().does("sees 1 2").due("unseen", 0);
        told(says, ONE + "b9;r1 4;").stepsTo(198).does("comes 0 2", "sees 2 0").due("unseen", 1).does("sees 3 2").due("unseen", 1)
                .does("sees 3 0").due("unseen", 0);
    }

    private static void unseenBesideOthers() {
        String says = "DEAF in some STEPS, and one unknown TERMINAL being DEAF";
        three(says).does("deafens 0 0 9", "sees 2 9").due("unseen", 1).does("forget", "sees 2 5").due("unseen", 2)
                .does("forget", "sees 2 4").due("unseen", 4);
        three(says).does("deafens 0 0 9", "deafens 1 0 9", "deafens 2 0 9", "sees 40 0").due("unseen", 0).does("forget", "sees 2 0")
                .due("unseen", 7);
    }

    private static void unseenWithoutLetters() {
        told("a TERMINAL that has nothing to send", "t1;t1;t1;c1 0 0 0;s60;").does("comes 0 2", "sees 1 2").due("unseen", 5)
                .does("forget", "sees 1 0").due("unseen", 2);
    }

    private static void asThingsAreNow() {
        three("(As things are NOW)").does("sees 1 4").due("unseen", 7).does("steps 1").due("unseen", 2).does("steps 1").due("unseen", 0)
                .due("undo", 4).due("unseen", 2).due("undo", 3).due("unseen", 7);
    }

    private static void seenStays() {
        Tale tale = three("SEEN is as told").does("keep 0", "sees 2 9", "steps 1", "widens 9", "undo", "undo", "back 0").due("count 9", 1)
                .due("unseen", 1);
        tale.types("x").due("cell", -10).due("count 9", 1).due("clear", 1).due("cell", 0).due("count 9", 0);
    }

    private static void nothingIsChanged() {
        Tale tale = told("nothing is changed", "t1;t4;c1 7 2 9;c0 3 1 5;c0 4 0 0;s10;b0;r1 4;").does("comes 0 3", "comes 1 30",
                "comes 2 40", "deafens 0 1 3", "keep 0", "steps 2", "sees 3 4", "type 97");
        for (String call : new String[] {"drain", "enough 30", "enough 40", "ahead 0 40", "ahead 2 1", "unseen"}) {
            tale.changesNothing(call);
        }
    }
}
