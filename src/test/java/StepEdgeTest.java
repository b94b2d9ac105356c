/** The edges that part 2 of the terms names: what comes, asks, is granted, packed and sent; each sentence by itself. */
public final class StepEdgeTest {
    private static final Check CHECK = new Check("StepEdgeTest");

    private static final String ONE = "t1;c0 0 0 0;";
    private static final String TWO = "t1;t1;c0 0 0 0;c1 0 0 0;";
    private static final String THREE = "t1;t1;t1;c0 0 0 0;c1 0 0 0;c2 0 0 0;";

    public static void main(String[] args) {
        asAtFirst();
        wantsIfNoneWaited();
        wantsNotIfOneWaitedInIt();
        wantsNotIfOneWaitedAhead();
        wantsIfOthersWaitedBehind();
        wantsWhateverOtherTerminalsHave();
        onTheWayIsNotWaiting();
        wantsFromThenOn();
        tokensOfRateAndLimit();
        tokensComeFirst();
        placesToAsk();
        bansByTheirLength();
        asksNotIfItWantsNot();
        asksAgainUnheeded();
        leftBehindRepeatedOnes();
        leftBehindOneWithoutReport();
        leftBehindTwoBlocks();
        repeatedWithoutRoom();
        madeFirstIsSentFirst();
        behindTheLastComesFirst();
        oneTerminalFollowsItself();
        whoHasNoGrantIsPassed();
        eachOnce();
        grantOfOneThatAsked();
        grantOfWhatIsThought();
        noGrantIfNoneIsThought();
        grantOfOneThatAskedAndIsThought();
        leftAtMost();
        noMoreIfNoneIsLeft();
        askedStaysTillAGrant();
        roomNone();
        reportOfTwo();
        leastOfThree();
        inTheOrderOfClasses();
        tokensStayAtZero();
        reportInWhatIsFree();
        oneReportAtMost();
        nothingInIt();
        reportOfAllItsClasses();
        lessThought();
        reportOfNone();
        notHeard();
        triesAndBacks();
        heardAtTheLastTry();
        triesOne();
        lostInStepWants();
        deafTillTheEnd();
        CHECK.end();
    }

    private static Tale told(String says, String text) {
        return Tale.told(CHECK, says, text);
    }

    // ---- COME

    private static void asAtFirst() {
        told("it has TOKENS (0 at first), BANNED (0), THINKS (0), NOW 0", "t1;c0 0 20 60;")
                .row("terminal 0", 1, 0, 0, 0, 0, 0, 0, 0, 0).row("sort 0", 4, 0, 0, 0, 0, 0).due("count 6", 0).due("count 7", 0);
    }

    private static void wantsIfNoneWaited() {
        String says = "WANTS to report, if no letters WAITED in this one";
        told(says, "t1;t1;c1 0 0 0;s0;").due("terminal 1 1", 0).does("comes 0 1").due("terminal 1 1", 1).due("terminal 0 1", 0);
        // Both letters came up with the report: none waits any more.
        told(says, ONE + "s60;b0;").does("comes 0 2", "steps 1").due("terminal 0 1", 0).due("sort 0 4", 0)
                .does("comes 0 1").due("terminal 0 1", 1);
    }

    private static void wantsNotIfOneWaitedInIt() {
        told("nor in this one", ONE + "s60;b0;").does("comes 0 3", "steps 1").due("terminal 0 1", 0).due("sort 0 4", 1)
                .does("comes 0 99").due("terminal 0 1", 0);
    }

    private static void wantsNotIfOneWaitedAhead() {
        String says = "no letters WAITED in any of its CLASSES that is AHEAD";
        told(says, "t1;c0 1 0 0;c0 0 0 0;s60;b0;").does("comes 1 3", "steps 1").due("sort 1 4", 1)
                .does("comes 0 1").due("terminal 0 1", 0);
        told(says, "t1;c0 9 0 0;c0 8 0 0;s60;b0;").does("comes 1 3", "steps 1", "comes 0 1").due("terminal 0 1", 0);
        told("of like ones, if its number is", "t1;c0 4 0 0;c0 4 0 0;s60;b0;").does("comes 0 3", "steps 1").due("sort 0 4", 1)
                .does("comes 1 1").due("terminal 0 1", 0);
        told("the one ahead of five others", "t1;" + "c0 0 0 0;".repeat(6) + "s60;b0;").does("comes 0 3", "steps 1", "comes 5 1")
                .due("terminal 0 1", 0);
    }

    private static void wantsIfOthersWaitedBehind() {
        String says = "those that are behind do not matter";
        told(says, "t1;c0 1 0 0;c0 0 0 0;s60;b0;").does("comes 0 3", "steps 1").due("terminal 0 1", 0).due("sort 0 4", 1)
                .does("comes 1 1").due("terminal 0 1", 1);
        told(says, "t1;c0 4 0 0;c0 4 0 0;s60;b0;").does("comes 1 3", "steps 1").due("terminal 0 1", 0)
                .does("comes 0 1").due("terminal 0 1", 1);
        told(says, "t1;" + "c0 0 0 0;".repeat(6) + "s60;b0;").does("comes 5 3", "steps 1", "comes 4 1").due("terminal 0 1", 1);
    }

    private static void wantsWhateverOtherTerminalsHave() {
        told("any of its CLASSES", "t1;t1;c0 0 0 0;c1 5 0 0;s60;b0;").does("comes 0 3", "steps 1").due("sort 0 4", 1)
                .does("comes 1 1").due("terminal 1 1", 1).due("terminal 0 1", 0);
    }

    private static void onTheWayIsNotWaiting() {
        told("letters ON THE WAY do not WAIT", ONE + "s60;b0;r6 4;").does("comes 0 2", "deafens 0 0 9", "steps 1")
                .due("sort 0 8", 2).due("sort 0 4", 0).due("terminal 0 1", 0).does("comes 0 1").due("terminal 0 1", 1);
    }

    private static void wantsFromThenOn() {
        told("from then on", ONE + "s0;").does("comes 0 1", "steps 40").due("terminal 0 1", 1).does("widens 1", "steps 1")
                .due("terminal 0 1", 1);
    }

    // ---- a step: tokens and asking

    private static void tokensOfRateAndLimit() {
        tokens(0, 60, 0, 0, 0);
        tokens(20, 0, 0, 0, 0);
        tokens(0, 0, 0, 0);
        tokens(1, 60, 1, 2, 3);
        tokens(20, 60, 20, 40, 60, 60);
        tokens(20, 59, 20, 40, 59, 59);
        tokens(7, 20, 7, 14, 20, 20);
        tokens(7, 21, 7, 14, 21, 21);
        tokens(5, 5, 5, 5);
        tokens(6, 5, 5, 5);
        tokens(20, 1, 1, 1);
    }

    private static void tokens(int rate, int limit, int... wants) {
        Tale tale = told("Each CLASS has RATE TOKENS more, LIMIT at most", "t1;c0 0 1 1;c0 0 " + rate + " " + limit + ";");
        tale.due("sort 1 5", 0);
        for (int want : wants) {
            tale.does("steps 1").due("sort 1 5", want);
        }
    }

    private static void tokensComeFirst() {
        told("in this order: 1 TOKENS", "t1;c0 0 1 9;s60;").does("comes 0 2", "steps 1").due("sort 0 5", 0).due("sort 0 6", 2)
                .does("steps 1").due("sort 0 5", 1);
    }

    private static void placesToAsk() {
        for (int t = 0; t <= 2; t++) {
            for (int period = 1; period <= 9; period++) {
                String text = ("t" + period + ";").repeat(3) + "c" + t + " 0 0 0;s0;b0;";
                Tale tale = told("t leaves, parted by its PERIOD, the same rest as its number", text).does("comes 0 1");
                int asks = 0;
                for (int step = 0; step <= 20; step++) {
                    asks += step % period == t % period ? 1 : 0;
                    tale.does("steps 1").due("terminal " + t + " 6", asks);
                }
            }
        }
    }

    private static void bansByTheirLength() {
        for (int ban = 0; ban <= 9; ban++) {
            Tale tale = told("BANNED till t and BAN and 1; t is not ahead of it", ONE + "s0;b" + ban + ";")
                    .due("terminal 0 2", 0).does("comes 0 1");
            for (int step = 0; step <= 24; step++) {
                int last = step - step % (ban + 1);
                tale.does("steps 1").due("terminal 0 2", last + ban + 1).due("terminal 0 6", 1 + last / (ban + 1));
            }
        }
    }

    private static void asksNotIfItWantsNot() {
        told("Each TERMINAL that WANTS to report ASKS", ONE + "s0;b5;").does("steps 3").row("terminal 0", 1, 0, 0, 0, 0, 0, 0)
                .does("comes 0 1").row("terminal 0", 1, 1, 0, 0, 0, 1, 0)
                .does("steps 1").row("terminal 0", 1, 1, 9, 1, 0, 1, 1);
    }

    private static void asksAgainUnheeded() {
        told("one that ASKED asks again", ONE + "s0;b0;").does("comes 0 1", "steps 1").due("terminal 0 3", 1)
                .due("terminal 0 6", 1).does("steps 1").due("terminal 0 3", 1).due("terminal 0 6", 2)
                .does("steps 40").due("terminal 0 6", 42).due("terminal 0 7", 0);
    }

    // ---- a step: what is sent again

    private static void leftBehindRepeatedOnes() {
        for (int room : new int[] {0, 1, 3, 4, 5, 7, 8, 9, 16, 17, 18, 59}) {
            // A block of 4 is heard and says 7; then the other one's 4, and 7 and 2, if there is room.
            told("LEFT is less by what is in each, 0 at least", TWO + "s60;b0;r1 4;").does("comes 0 9", "deafens 0 0 0", "steps 1")
                    .due("block 0 3", 4).does("comes 1 9", "widens " + room, "steps 1")
                    .due("terminal 1 7", Math.max(0, Math.min(4, room - 4)))
                    .due("terminal 0 7", 4 + Math.max(0, Math.min(9, room - 8)));
        }
    }

    private static void leftBehindOneWithoutReport() {
        for (int room : new int[] {0, 2, 4, 5, 6, 9, 10}) {
            told("LEFT is less by what is in each", TWO + "s1;b0;r1 4;").does("comes 0 9", "deafens 0 0 0", "steps 1")
                    .due("block 0 3", 1).due("block 0 4", Tale.NONE).does("comes 1 9", "widens " + room, "steps 1")
                    .due("terminal 1 7", Math.max(0, Math.min(4, room - 1)))
                    .due("terminal 0 7", 1 + Math.max(0, Math.min(4, room - 5)));
        }
    }

    private static void leftBehindTwoBlocks() {
        for (int room : new int[] {3, 4, 7, 8, 9, 11, 12}) {
            told("LEFT is less by what is in each, 0 at least", THREE + "s60;b0;r1 4;")
                    .does("comes 0 9", "comes 1 9", "deafens 0 0 0", "deafens 1 0 0", "steps 1").due("count 7", 2)
                    .does("comes 2 9", "widens " + room, "steps 1").due("count 7", 0)
                    .due("terminal 2 7", Math.max(0, Math.min(4, room - 8)));
        }
    }

    private static void repeatedWithoutRoom() {
        told("0 at least: BLOCKS are sent again without room, too", ONE + "s60;b0;r1 4;")
                .does("comes 0 9", "deafens 0 0 0", "steps 1", "widens 0").due("steps 1", 2).due("terminal 0 4", 7)
                .due("terminal 0 7", 4);
    }

    /** Both are due in step 2; the one that was made in step 1 says 10, and is heard last. */
    private static void madeFirstIsSentFirst() {
        told("of one those that were made first", "t1;c0 5 0 0;c0 0 0 0;s60;b0;r1 4;")
                .does("comes 0 9", "deafens 0 0 1", "steps 1", "comes 1 5", "steps 1")
                .row("block 0", 0, 0, 2, 2, 4, 7).row("block 1", 0, 0, 2, 1, 4, 10)
                .does("widens 8").due("steps 1", 4).due("terminal 0 4", 10).due("terminal 0 7", 8);
    }

    // ---- a step: who has a grant

    private static void behindTheLastComesFirst() {
        Tale tale = told("0, if none had; behind the last comes 0", THREE + "s4;b0;").does("comes 0 20", "comes 1 20", "comes 2 20");
        tale.due("count 8", Tale.NONE);
        for (int step = 0; step <= 6; step++) {
            tale.does("steps 1").due("count 8", step % 3).due("terminal " + step % 3 + " 7", 4 + 4 * (step / 3));
        }
        Tale two = told("behind the last comes 0", TWO + "s4;b0;").does("comes 0 20", "comes 1 20");
        for (int step = 0; step <= 4; step++) {
            two.does("steps 1").due("count 8", step % 2);
        }
    }

    private static void oneTerminalFollowsItself() {
        told("behind the last comes 0", ONE + "s4;b0;").does("comes 0 20", "steps 1").due("count 8", 0)
                .does("steps 1").due("count 8", 0).due("terminal 0 7", 8);
    }

    private static void whoHasNoGrantIsPassed() {
        told("one that ASKED or of which more than 0 is THOUGHT has a grant", THREE + "s4;b0;").does("comes 1 9", "steps 1")
                .due("count 8", 1).due("terminal 0 7", 0).due("terminal 1 7", 4).due("terminal 2 7", 0)
                .does("steps 1").due("count 8", 1).due("terminal 1 7", 8);
        // Behind 2 comes 0, which has none: so 1 has it.
        told("one that ASKED or of which more than 0 is THOUGHT has a grant", THREE + "s4;b0;").does("comes 2 2", "steps 1")
                .due("count 8", 2).does("comes 1 2", "steps 1").due("count 8", 1).due("terminal 2 7", 4);
    }

    private static void eachOnce() {
        told("each once", TWO + "s60;b0;").does("comes 0 20", "comes 1 20", "steps 1").due("terminal 0 7", 4).due("terminal 1 7", 4)
                .due("count 8", 1);
        told("each once", ONE + "s60;b0;").does("comes 0 20", "steps 1").due("terminal 0 7", 4).due("terminal 0 4", 18);
    }

    private static void grantOfOneThatAsked() {
        told("else 4", ONE + "s60;").does("comes 0 1", "steps 1").due("terminal 0 7", 4);
        told("else 4", ONE + "s60;").does("comes 0 99", "steps 1").due("terminal 0 7", 4);
    }

    private static void grantOfWhatIsThought() {
        for (int thought : new int[] {1, 2, 7, 56, 57, 58}) {
            told("what is THOUGHT and 2 if that is more than 0", ONE + "s60;").does("comes 0 " + (2 + thought), "steps 1")
                    .due("terminal 0 4", thought).does("steps 1").due("terminal 0 7", 4 + Math.min(60, thought + 2));
        }
    }

    private static void noGrantIfNoneIsThought() {
        told("more than 0 is THOUGHT", ONE + "s60;").does("comes 0 2", "steps 1").due("terminal 0 4", 0)
                .does("steps 40").due("terminal 0 7", 4);
    }

    private static void grantOfOneThatAskedAndIsThought() {
        told("what is THOUGHT and 2 if that is more than 0, else 4", "t1;c0 5 0 0;c0 0 0 0;s60;b0;")
                .does("comes 0 9", "steps 1", "comes 1 5").due("terminal 0 1", 1).does("steps 1").due("terminal 0 6", 2)
                .due("terminal 0 7", 13).due("terminal 0 4", 5).due("sort 1 6", 5).due("sort 0 6", 4);
    }

    private static void leftAtMost() {
        for (int room = 1; room <= 5; room++) {
            told("LEFT at most", ONE + "s" + room + ";").does("comes 0 9", "steps 1").due("terminal 0 7", Math.min(4, room));
        }
        for (int room = 8; room <= 10; room++) {
            told("LEFT at most", ONE + "s60;").does("comes 0 9", "steps 1", "widens " + room, "steps 1")
                    .due("terminal 0 7", 4 + Math.min(9, room));
        }
    }

    private static void noMoreIfNoneIsLeft() {
        for (int room = 3; room <= 9; room++) {
            told("If LEFT is 0, there are no more", TWO + "s" + room + ";").does("comes 0 9", "comes 1 9", "steps 1")
                    .due("terminal 0 7", Math.min(4, room)).due("terminal 1 7", Math.max(0, Math.min(4, room - 4)))
                    .due("terminal 1 3", room <= 4 ? 1 : 0).due("terminal 0 3", 0).due("count 8", room <= 4 ? 0 : 1);
        }
    }

    private static void askedStaysTillAGrant() {
        told("It has not ASKED any more (that has a grant)", TWO + "s4;b9;").does("comes 0 9", "comes 1 9", "steps 1")
                .row("terminal 1", 1, 1, 10, 1, 0, 9, 1, 0).does("steps 1").row("terminal 1", 1, 0, 10, 0, 7, 7, 1, 4);
    }

    private static void roomNone() {
        told("ROOM 0", TWO + "s0;").does("comes 0 9", "comes 1 9").due("steps 40", 0).due("count 8", Tale.NONE)
                .due("terminal 0 7", 0).due("terminal 0 3", 1).due("terminal 1 3", 1).due("count 7", 0).due("drain", Tale.NONE);
        told("ROOM 60", ONE + "s60;").does("comes 0 99", "steps 1").due("steps 1", 60).due("sort 0 4", 37);
    }

    // ---- what is packed

    private static void reportOfTwo() {
        String says = "If it WANTS to report and g is 2 or more, 2 are for a REPORT";
        told(says, ONE + "s1;").does("comes 0 9").due("steps 1", 1).due("terminal 0 1", 1).due("terminal 0 4", 0);
        told(says, ONE + "s2;").does("comes 0 9").due("steps 1", 0).due("terminal 0 1", 0).due("terminal 0 4", 9);
        told(says, ONE + "s3;").does("comes 0 9").due("steps 1", 1).due("terminal 0 1", 0).due("terminal 0 4", 8);
        told(says, ONE + "s4;").does("comes 0 9").due("steps 1", 2).due("terminal 0 1", 0).due("terminal 0 4", 7);
    }

    private static void leastOfThree() {
        String says = "as many letters as WAIT, as it has TOKENS, as are free, whichever is least";
        told(says, "t1;c0 0 20 60;s4;").does("comes 0 1").due("steps 1", 1).row("sort 0", 4, 0, 19);
        told(says, "t1;c0 0 1 9;s4;").does("comes 0 9").due("steps 1", 2).row("sort 0", 4, 7, 0);
        told(says, "t1;c0 0 5 9;s4;").does("comes 0 9").due("steps 1", 2).row("sort 0", 4, 7, 3);
        told(says, "t1;c0 0 2 9;s4;").does("comes 0 2").due("steps 1", 2).row("sort 0", 4, 0, 0);
        told(says, "t1;c0 0 5 9;s2;").does("comes 0 9").due("steps 1", 0).row("sort 0", 4, 9, 5);
    }

    private static void inTheOrderOfClasses() {
        String says = "the one that is AHEAD of all first; then once more in this order";
        packs(says, "c0 0 1 9;c0 1 5 9;", 8, 8, 0, 4);
        packs(says, "c0 0 0 0;c0 1 1 9;", 8, 8, 0, 0);
        packs(says, "c0 0 0 0;c0 1 0 0;", 7, 9, 0, 0);
        packs(says, "c0 1 0 0;c0 0 0 0;", 9, 7, 0, 0);
        packs(says, "c0 9 2 9;c0 8 2 9;", 9, 7, 2, 0);
        packs("of like ones, if its number is", "c0 1 0 0;c0 1 0 0;", 7, 9, 0, 0);
        packs("of like ones, if its number is", "c0 9 5 9;c0 9 5 9;", 7, 9, 3, 5);
    }

    private static void packs(String says, String classes, int waits, int otherWaits, int tokens, int otherTokens) {
        told(says, "t1;" + classes + "s4;").does("comes 0 9", "comes 1 9").due("steps 1", 2).row("sort 0", 4, waits, tokens)
                .row("sort 1", 4, otherWaits, otherTokens);
    }

    private static void tokensStayAtZero() {
        told("(TOKENS stay)", "t1;c0 0 1 9;s60;").does("comes 0 30", "steps 1").due("sort 0 5", 0).does("steps 1").due("sort 0 5", 0)
                .due("sort 0 4", 0).does("steps 1").due("sort 0 5", 1);
    }

    private static void reportInWhatIsFree() {
        String says = "If there is no REPORT, and 2 or more are free: a REPORT";
        // 5 are granted for the 3 that are thought; none, 1, 2 or 3 letters more have come.
        free(says, 0, 5, 0);
        free(says, 1, 4, Tale.NONE);
        free(says, 2, 5, Tale.NONE);
        free(says, 3, 5, Tale.NONE);
    }

    private static void free(String says, int more, int content, int report) {
        Tale tale = told(says, ONE + "s60;b0;r6 4;").does("comes 0 5", "steps 1");
        if (more > 0) {
            tale.does("comes 0 " + more);
        }
        tale.does("deafens 0 1 1", "steps 1").row("block 0", 0, 0, 7, 1, content, report).due("sort 0 4", Math.max(0, more - 2));
    }

    /** What was lost makes it want, with nothing waiting: the 2 behind its report are free, and no second one is made. */
    private static void oneReportAtMost() {
        told("If there is no REPORT", ONE + "s60;b0;r1 2;").does("comes 0 2", "deafens 0 0 5", "steps 2").due("sort 0 7", 2)
                .due("count 7", 0).due("terminal 0 1", 1).does("steps 1").row("block 0", 0, 0, 3, 1, 2, 0)
                .due("terminal 0 7", 8).due("terminal 0 1", 0);
    }

    private static void nothingInIt() {
        String says = "if it has nothing in it, it is not made";
        // 3 are thought, and on the way: 5 are granted for nothing, or what there is room for.
        Tale tale = told(says, ONE + "s60;b9;r6 2;").does("comes 0 5", "steps 1", "deafens 0 1 9", "steps 1").due("count 7", 1)
                .due("terminal 0 4", 3);
        tale.twin().does("widens 1", "steps 1").due("count 7", 1).due("terminal 0 7", 10).due("terminal 0 4", 3);
        tale.twin().does("widens 2", "steps 1").due("count 7", 2).due("terminal 0 7", 11).row("block 1", 0, 0, 8, 1, 2, 0);
        tale.does("steps 1").due("count 7", 2).due("terminal 0 7", 14).row("block 1", 0, 0, 8, 1, 2, 0);
    }

    private static void reportOfAllItsClasses() {
        String text = "t1;t1;c1 0 0 0;" + "c0 0 0 0;".repeat(5) + "s4;";
        Tale tale = told("A REPORT says how much WAITS in all its CLASSES then", text);
        for (int c = 0; c <= 5; c++) {
            tale.times(10, "comes " + c + " 99").due("comes " + c + " 9", 999);
        }
        tale.due("steps 1", 2).due("terminal 0 4", 4993).due("terminal 0 5", 4993).due("terminal 1 5", 999);
        Tale one = told("A REPORT says how much WAITS in all its CLASSES then", "t1;" + "c0 0 0 0;".repeat(6) + "s60;");
        for (int c = 0; c <= 5; c++) {
            one.times(10, "comes " + c + " 99").due("comes " + c + " 9", 999);
        }
        one.due("steps 1", 2).due("terminal 0 4", 5992).due("steps 1", 60).due("terminal 0 4", 5932).due("terminal 0 7", 64);
    }

    // ---- what is sent

    private static void lessThought() {
        String says = "else so much less as it has letters, 0 at least";
        told(says, ONE + "s60;").does("comes 0 9", "steps 1", "widens 3", "steps 1").due("terminal 0 4", 4);
        told(says, ONE + "s60;").does("comes 0 9", "steps 1", "widens 6", "steps 1").due("terminal 0 4", 1);
        told(says, ONE + "s60;").does("comes 0 9", "steps 1", "widens 7", "steps 1").due("terminal 0 4", 0);
        told(says, ONE + "s1;b0;").does("comes 0 9", "steps 1").due("terminal 0 4", 0).does("steps 1").due("terminal 0 4", 0);
        // 4 and 5 letters come of 3 that are thought.
        told(says, ONE + "s60;").does("comes 0 5", "steps 1", "comes 0 1").due("steps 1", 4).due("terminal 0 4", 0);
        told(says, ONE + "s60;").does("comes 0 5", "steps 1", "comes 0 3").due("steps 1", 5).due("terminal 0 4", 0)
                .due("sort 0 4", 1).due("terminal 0 1", 0).due("drain", Tale.NONE);
    }

    /** 3 letters are lost of which the station still thinks. */
    private static void reportOfNone() {
        told("if it has a REPORT, so much is THOUGHT", ONE + "s60;b9;r1 1;").does("comes 0 5", "steps 1", "deafens 0 1 1", "steps 1")
                .due("sort 0 7", 3).due("terminal 0 4", 3).due("terminal 0 1", 1).does("steps 1").due("terminal 0 4", 0)
                .due("terminal 0 1", 0);
    }

    private static void notHeard() {
        told("If it is not HEARD: nothing is THROUGH nor THOUGHT", ONE + "s60;r6 4;").does("comes 0 9", "deafens 0 0 0").due("steps 1", 0)
                .row("sort 0", 4, 7, 0, 0, 0, 2).due("terminal 0 4", 0).due("terminal 0 8", 1).due("terminal 0 1", 0);
    }

    private static void triesAndBacks() {
        for (int back = 1; back <= 6; back++) {
            for (int tries = 1; tries <= 4; tries++) {
                Tale tale = told("due in t and BACK, if it was sent fewer times than TRIES; else it is LOST",
                        ONE + "s4;b9;r" + back + " " + tries + ";").does("comes 0 2", "deafens 0 0 199", "steps 1");
                for (int sent = 1; sent < tries; sent++) {
                    tale.row("block 0", 0, 0, sent * back, sent, 4, 0).due("sort 0 8", 2).due("sort 0 7", 0)
                            .due("terminal 0 1", 0).stepsTo(sent * back).due("block 0 2", sent).does("steps 1");
                }
                tale.due("count 7", 0).due("sort 0 7", 2).due("sort 0 8", 0).due("sort 0 6", 0).due("sort 0 4", 0)
                        .due("terminal 0 1", 1).due("terminal 0 8", 0);
            }
        }
    }

    private static void heardAtTheLastTry() {
        for (int back = 1; back <= 6; back++) {
            for (int tries = 2; tries <= 4; tries++) {
                int last = back * (tries - 1);
                told("HEARD, if the TERMINAL is not DEAF in t", ONE + "s4;b9;r" + back + " " + tries + ";")
                        .does("comes 0 2", "deafens 0 0 " + (last - 1)).stepsTo(last).due("count 7", 1).due("steps 1", 2)
                        .due("count 7", 0).due("sort 0 6", 2).due("sort 0 7", 0).due("terminal 0 1", 0);
            }
        }
    }

    private static void triesOne() {
        told("TRIES 1: LOST at once, and WANTS to report, though it had a REPORT", ONE + "s60;b0;r6 1;")
                .does("comes 0 9", "deafens 0 0 0").due("steps 1", 0).due("count 7", 0).row("sort 0", 4, 7, 0, 0, 2, 0)
                .due("terminal 0 1", 1).due("terminal 0 4", 0);
    }

    /** Lost when it is sent again, so ahead of the grants of that step: what is granted then has a report. */
    private static void lostInStepWants() {
        told("it is LOST, and its TERMINAL WANTS to report", ONE + "s60;b9;r1 2;")
                .does("comes 0 9", "steps 1", "comes 0 1", "deafens 0 1 2", "widens 5", "steps 1")
                .row("block 0", 0, 0, 2, 1, 5, Tale.NONE).does("widens 9", "steps 1").due("sort 0 7", 5)
                .row("block 0", 0, 0, 3, 1, 4, 1).due("terminal 0 1", 0);
    }

    private static void deafTillTheEnd() {
        String says = "in none above 199";
        told(says, ONE + "s60;b0;r1 4;").stepsTo(199).does("comes 0 2", "deafens 0 199 199").due("ahead 0 1", 0)
                .due("ahead 0 2", 2).due("drain", 2).due("deaf 0 199", 1).bad("deaf 0 200");
        told(says, ONE + "s60;b0;r6 4;").stepsTo(199).does("comes 0 2", "deafens 0 199 199").due("drain", 7).due("ahead 0 6", 0)
                .due("ahead 0 7", 2);
    }
}
