/** The edges that the promises 5 to 13 name, each sentence by itself: what is done, and how things are. */
public final class DoneEdgeTest {
    private static final Check CHECK = new Check("DoneEdgeTest");

    private static final String ONE = "t1;c0 0 0 0;";
    private static final String BUSY = "t1;t4;c1 7 2 9;c0 3 1 5;c0 4 0 0;s10;b0;r1 4;";

    public static void main(String[] args) {
        comesSoMany();
        comesToAClass();
        comesTillItIsFull();
        fullIsOneClass();
        stepsSoMany();
        stepsToTheLast();
        stepsWithoutTerminals();
        throughInThese();
        deafFromNowOn();
        deafToTheLast();
        deafMoreThanBefore();
        deafTerminals();
        widensToAnother();
        roomFromThenOn();
        undoesEachKind();
        undoesWhatWasLostAndAsked();
        undoesNoneMore();
        undoesEight();
        undoesTheLatest();
        refusedIsNotUndone();
        otherCallsAreNotUndone();
        sortEdges();
        sortOfEachKind();
        sortOfAllBlocks();
        terminalEdges();
        terminalOfEachKind();
        blockEdges();
        blocksInOrder();
        mostBlocks();
        deafEdges();
        mostCalls();
        CHECK.end();
    }

    private static Tale told(String says, String text) {
        return Tale.told(CHECK, says, text);
    }

    private static Tale busy(String says) {
        return told(says, BUSY).does("comes 0 3", "comes 1 30", "comes 2 40", "deafens 0 1 3", "steps 2");
    }

    // ---- promise 5: comes

    private static void comesSoMany() {
        told("So many letters (1 .. 99)", ONE).due("comes 0 1", 1).due("comes 0 99", 100).due("comes 0 2", 102).due("comes 0 98", 200)
                .bad("comes 0 0", "comes 0 100", "comes 0 -1", "comes 0 -2147483648", "comes 0 2147483647");
    }

    private static void comesToAClass() {
        told("to a CLASS", "t1;t1;" + "c0 0 0 0;".repeat(5) + "c1 0 0 0;").due("comes 0 1", 1).due("comes 5 2", 2)
                .bad("comes -1 1", "comes 6 1", "comes -2147483648 1", "comes 2147483647 1")
                .due("terminal 0 5", 1).due("terminal 1 5", 2);
        told("to a CLASS", "t1;").bad("comes 0 1");
    }

    private static void comesTillItIsFull() {
        told("FULL: more than 999 would", ONE).times(10, "comes 0 99").refused("comes 0 10", Tale.FULL).refused("comes 0 99", Tale.FULL)
                .due("comes 0 8", 998).refused("comes 0 2", Tale.FULL).due("comes 0 1", 999).refused("comes 0 1", Tale.FULL)
                .refused("comes 0 99", Tale.FULL).due("sort 0 4", 999).due("undo", 7).due("sort 0 4", 998).due("comes 0 1", 999);
        told("FULL: only what WAITS counts", ONE + "s60;").times(10, "comes 0 99").due("comes 0 9", 999).due("steps 1", 2)
                .refused("comes 0 3", Tale.FULL).due("comes 0 2", 999).refused("comes 0 1", Tale.FULL);
    }

    private static void fullIsOneClass() {
        told("In a CLASS letters WAIT (999 at most)", "t1;c0 0 0 0;c0 0 0 0;").times(10, "comes 0 99").due("comes 0 9", 999)
                .due("comes 1 99", 99).refused("comes 0 1", Tale.FULL).due("terminal 0 5", 1098);
    }

    // ---- promise 6: steps

    private static void stepsSoMany() {
        told("So many STEPS (1 .. 40)", ONE).due("steps 1", 0).due("count 6", 1).due("steps 40", 0).due("count 6", 41).due("steps 2", 0)
                .due("steps 39", 0).due("count 6", 82)
                .bad("steps 0", "steps 41", "steps -1", "steps -2147483648", "steps 2147483647");
    }

    private static void stepsToTheLast() {
        String says = "STATE: NOW would be above 199";
        told(says, ONE).stepsTo(160).refused("steps 40", Tale.STATE).due("steps 39", 0).due("count 6", 199);
        told(says, ONE).stepsTo(159).due("steps 40", 0).due("count 6", 199);
        told(says, ONE).stepsTo(198).refused("steps 2", Tale.STATE).due("steps 1", 0).due("count 6", 199)
                .refused("steps 1", Tale.STATE).refused("steps 40", Tale.STATE).bad("steps 41", "steps 0");
        told(says, ONE).stepsTo(199).due("undo", 4).due("count 6", 160).due("steps 39", 0).due("count 6", 199);
    }

    private static void stepsWithoutTerminals() {
        Tale.fresh(CHECK, "no TERMINALS").due("steps 40", 0).due("count 6", 40).due("count 8", Tale.NONE).due("count 11", 1);
    }

    private static void throughInThese() {
        told("how many letters are THROUGH in these", "t1;t1;c0 0 0 0;c1 0 0 0;s60;b9;r3 2;").does("comes 0 9", "comes 1 9", "deafens 1 0 0")
                .due("steps 1", 2).due("steps 1", 7).due("steps 1", 0).due("steps 1", 9).due("steps 40", 0);
        told("how many letters are THROUGH in these", "t1;t1;c0 0 0 0;c1 0 0 0;s60;b9;r3 2;").does("comes 0 9", "comes 1 9", "deafens 1 0 0")
                .due("steps 40", 18);
    }

    // ---- promise 7: deafens

    private static void deafFromNowOn() {
        told("from STEP F on (NOW or later)", "t1;").does("steps 5").bad("deafens 0 4 9", "deafens 0 0 9", "deafens 0 -1 9")
                .due("deafens 0 5 9", 5).due("deaf 0 5", 1).due("deaf 0 4", 0).due("deafens 0 11 11", 1).due("deaf 0 10", 0);
        told("from STEP F on (NOW or later)", "t1;").bad("deafens 0 -1 0").due("deafens 0 0 0", 1).due("deaf 0 0", 1).due("deaf 0 1", 0);
        told("from STEP F on (NOW or later)", "t1;").stepsTo(199).bad("deafens 0 198 199", "deafens 0 200 200")
                .due("deafens 0 199 199", 1).due("deaf 0 199", 1).due("deaf 0 198", 0);
    }

    private static void deafToTheLast() {
        told("to E (F or later, 199 at most)", "t1;").bad("deafens 0 9 8", "deafens 0 9 200", "deafens 0 200 200", "deafens 0 9 -1",
                        "deafens 0 0 2147483647", "deafens 0 -2147483648 9", "deafens 0 2147483647 2147483647")
                .due("deafens 0 9 9", 1).due("deafens 0 198 199", 2).due("deaf 0 199", 1).due("deaf 0 197", 0).due("deaf 0 10", 0);
        told("to E (199 at most)", "t1;").due("deafens 0 0 199", 200).due("deafens 0 0 199", 0).due("count 11", 2);
    }

    private static void deafMoreThanBefore() {
        told("in how many STEPS it is more than before", "t1;t1;").due("deafens 0 5 9", 5).due("deafens 0 5 9", 0).due("deafens 0 4 10", 2)
                .due("deafens 0 10 12", 2).due("deafens 0 20 20", 1).due("deafens 0 0 30", 21).due("deafens 1 5 9", 5)
                .due("undo", 6).due("deaf 1 5", 0).due("undo", 5).due("deaf 0 0", 0).due("deaf 0 20", 1).due("deaf 0 12", 1)
                .due("deaf 0 13", 0).due("deafens 0 0 30", 21);
    }

    private static void deafTerminals() {
        told("a TERMINAL", "t1;t1;t1;").bad("deafens -1 0 0", "deafens 3 0 0", "deafens 2147483647 0 0", "deafens -2147483648 0 0", "deafens 32 0 0")
                .due("deafens 2 0 0", 1).due("deaf 0 0", 0).due("deaf 1 0", 0).due("deaf 2 0", 1).due("deafens 0 0 0", 1)
                .due("deaf 0 0", 1).due("deaf 1 0", 0);
    }

    // ---- promise 8: widens

    private static void widensToAnother() {
        told("ROOM is another one: what it was", "s30;").refused("widens 30", Tale.STATE).due("widens 0", 30).refused("widens 0", Tale.STATE)
                .due("widens 60", 0).refused("widens 60", Tale.STATE).due("widens 1", 60).due("widens 59", 1).due("count 2", 59)
                .bad("widens -1", "widens 61", "widens -2147483648", "widens 2147483647");
        Tale.fresh(CHECK, "STATE: it is that").refused("widens 20", Tale.STATE).due("widens 19", 20).due("widens 20", 19);
    }

    private static void roomFromThenOn() {
        told("ROOM is another one", ONE + "s0;b0;").does("comes 0 9").due("steps 1", 0).does("widens 1").due("steps 1", 1).does("widens 4")
                .due("steps 1", 2).does("widens 0").due("steps 9", 0);
    }

    // ---- promise 9: undo

    private static void undoesEachKind() {
        for (String call : new String[] {"comes 0 99", "comes 2 1", "steps 1", "steps 40", "deafens 0 2 199", "deafens 1 9 9",
            "deafens 0 2 2", "widens 0", "widens 60"}) {
            Tale before = busy(call + " is UNDONE");
            before.twin().does(call).due("count 11", 6).due("undo", 5).due("count 11", 5).isLike("it is as before", before);
        }
        Tale last = busy("steps() is UNDONE at the end").stepsTo(160);
        last.twin().does("steps 39").due("undo", 8 - 1).isLike("it is as before", last);
    }

    /** Behind this nothing that a terminal or a class has is as at first: it ASKED in vain, and letters are LOST. */
    private static void undoesWhatWasLostAndAsked() {
        Tale before = told("all is UNDONE", "t1;t4;c1 7 2 9;c0 3 1 5;c0 4 0 0;s10;b0;r1 2;").does("comes 0 3", "comes 1 30", "comes 2 40",
                "deafens 0 0 4", "steps 2", "widens 0", "steps 1").row("terminal 0", 1, 1, 3, 1, 0, 68, 2, 4, 0).due("sort 1 7", 2);
        before.twin().does("widens 60", "steps 9").due("sort 1 7", 4).due("terminal 0 3", 0).due("undo", 8 - 1).due("undo", 8 - 2)
                .isLike("it is as before", before);
    }

    private static void undoesNoneMore() {
        Tale.fresh(CHECK, "STATE: none").refused("undo", Tale.STATE).does("steps 1").due("undo", 0).refused("undo", Tale.STATE)
                .due("count 6", 0);
        told("STATE: none", ONE).does("comes 0 1", "comes 0 1").due("undo", 1).due("undo", 0).refused("undo", Tale.STATE)
                .due("sort 0 4", 0).due("terminal 0 1", 0);
    }

    private static void undoesEight() {
        Tale tale = told("8 are known, older ones are lost", ONE + "s0;");
        for (int i = 1; i <= 8; i++) {
            tale.does("comes 0 " + i).due("count 11", i);
        }
        Tale eight = tale.twin();
        for (int left = 7; left >= 0; left--) {
            eight.due("undo", left).due("sort 0 4", left * (left + 1) / 2);
        }
        eight.refused("undo", Tale.STATE);
        tale.does("comes 0 9").due("count 11", 8);
        Tale nine = tale.twin();
        for (int left = 7; left >= 0; left--) {
            nine.due("undo", left).due("sort 0 4", (left + 1) * (left + 2) / 2);
        }
        nine.refused("undo", Tale.STATE).due("sort 0 4", 1);
        // Many more than eight, and between them some that are undone.
        tale.times(3, "undo").due("count 11", 5).due("sort 0 4", 21).times(12, "comes 0 1").due("count 11", 8).due("sort 0 4", 33);
        tale.times(8, "undo").refused("undo", Tale.STATE).due("sort 0 4", 25).does("comes 0 5").due("undo", 0).due("sort 0 4", 25);
    }

    private static void undoesTheLatest() {
        told("the latest comes(), steps(), deafens(), widens()", ONE + "s60;").does("widens 4", "comes 0 9", "deafens 0 0 0", "steps 1")
                .due("count 7", 1).due("undo", 3).due("count 7", 0).due("deaf 0 0", 1).due("undo", 2).due("deaf 0 0", 0)
                .due("sort 0 4", 9).due("undo", 1).due("sort 0 4", 0).due("count 2", 4).due("undo", 0).due("count 2", 60);
    }

    private static void refusedIsNotUndone() {
        told("that was not refused", ONE).does("comes 0 9").bad("comes 0 0", "steps 0", "deafens 0 1 0", "widens 61")
                .refused("widens 20", Tale.STATE).due("count 11", 1).times(10, "comes 0 99").refused("comes 0 99", Tale.FULL)
                .due("undo", 7).due("sort 0 4", 900);
        told("that was not refused", ONE).stepsTo(199).refused("steps 1", Tale.STATE).due("undo", 4).due("count 6", 160);
    }

    private static void otherCallsAreNotUndone() {
        told("the latest comes(), steps(), deafens(), widens()", ONE).does("comes 0 9", "type 97", "sees 1 1", "keep 0")
                .due("count 11", 1).due("forget", 1).due("clear", 1).does("type 98", "sees 2 2").due("undo", 0)
                .due("count 9", 1).due("count 10", 1).due("back 0", 0).due("sort 0 4", 9);
    }

    // ---- promise 10: sort

    private static void sortEdges() {
        busy("Of a CLASS").bad("sort -1 0", "sort 3 0", "sort 0 -1", "sort 0 9", "sort 3 9", "sort 2147483647 0", "sort -2147483648 0",
                "sort 0 2147483647", "sort 0 -2147483648").row("sort 2", 0, 0, 4, 0, 0, 40, 0, 0, 0, 0);
        told("no CLASSES", "t1;").bad("sort 0 0", "sort 0 8", "sort -1 4");
        told("six CLASSES", "t1;" + "c0 0 0 0;".repeat(6)).due("sort 5 8", 0).bad("sort 6 8");
    }

    private static void sortOfEachKind() {
        busy("0 TERMINAL, 1 PRIORITY, 2 RATE, 3 LIMIT, 4 WAIT, 5 TOKENS, 6 THROUGH, 7 LOST, 8 ON THE WAY")
                .row("sort 0", 0, 1, 7, 2, 9, 1, 2, 2, 0, 0).row("sort 1", 0, 0, 3, 1, 5, 22, 0, 2, 0, 6);
    }

    /** Three blocks without a report, of 3, 2 and 2 letters, beside another class that has none on the way. */
    private static void sortOfAllBlocks() {
        told("8 ON THE WAY, in all BLOCKS", "t1;c0 0 0 0;c0 1 0 0;s60;b0;r6 4;").does("comes 0 9", "steps 1", "deafens 0 1 9", "widens 3",
                "steps 1").due("sort 0 8", 3).does("widens 2", "steps 1").due("sort 0 8", 5).does("steps 1").due("sort 0 8", 7)
                .due("sort 1 8", 0).row("sort 0", 4, 0, 0, 2, 0, 7).due("terminal 0 8", 3).due("count 7", 3);
    }

    // ---- promise 11: terminal

    private static void terminalEdges() {
        busy("Of a TERMINAL").bad("terminal -1 0", "terminal 2 0", "terminal 0 -1", "terminal 0 9", "terminal 2 9", "terminal 2147483647 0",
                "terminal -2147483648 0", "terminal 0 2147483647", "terminal 0 -2147483648");
        Tale.fresh(CHECK, "no TERMINALS").bad("terminal 0 0", "terminal 0 8", "terminal -1 1");
        told("three TERMINALS", "t1;t2;t9;").row("terminal 2", 0, 9, 0, 0, 0, 0, 0, 0, 0, 0).bad("terminal 3 0");
    }

    private static void terminalOfEachKind() {
        busy("0 PERIOD, 1 WANTS, 2 BANNED, 3 ASKED, 4 THOUGHT, 5 WAIT, 6 how often it ASKED, 7 granted, 8 BLOCKS")
                .row("terminal 0", 0, 1, 0, 1, 0, 68, 62, 1, 10, 1).row("terminal 1", 0, 4, 0, 2, 0, 1, 1, 1, 4, 0);
        told("2 the STEP till which it is BANNED (0)", ONE + "b9;").due("terminal 0 2", 0).does("comes 0 1").due("terminal 0 2", 0)
                .does("steps 1").due("terminal 0 2", 10).does("steps 40").due("terminal 0 2", 10);
    }

    // ---- promise 12: block

    private static void blockEdges() {
        Tale tale = busy("BAD (k below 0); NONE: there are not so many").due("count 7", 1);
        tale.bad("block -1 0", "block -2147483648 0", "block 0 -1", "block 0 5", "block 1 5", "block 1 -1", "block 2147483647 5");
        for (int what = 0; what <= 4; what++) {
            tale.due("block 1 " + what, Tale.NONE).due("block 2147483647 " + what, Tale.NONE);
        }
        tale.row("block 0", 0, 0, 2, 1, 6, Tale.NONE);
        Tale.fresh(CHECK, "NONE: there are not so many").due("block 0 0", Tale.NONE).due("block 0 4", Tale.NONE).bad("block 0 5", "block -1 4");
        told("3 what is in it (a REPORT's 2, too), 4 what its REPORT says", ONE + "r6 4;").does("comes 0 2", "deafens 0 0 0", "steps 1")
                .row("block 0", 0, 0, 6, 1, 4, 0);
    }

    private static void blocksInOrder() {
        // Terminal 0 has a block of step 1, terminal 1 one of step 0: that of step 0 is due first, though of the higher one.
        told("by when they are due", "t1;t1;c0 0 0 0;c1 0 0 0;s60;b0;r6 4;").does("comes 1 5", "deafens 0 0 9", "deafens 1 0 9", "steps 1",
                "comes 0 6", "steps 1").row("block 0", 0, 1, 6, 1, 4, 3).row("block 1", 0, 0, 7, 1, 4, 4).due("block 2 0", Tale.NONE);
        // Both are of step 1, in which terminal 1 had its grant first.
        told("of like ones by TERMINALS", "t1;t1;c0 0 0 0;c1 0 0 0;s60;b0;r1 4;").does("comes 0 9", "steps 1", "comes 1 9",
                "deafens 0 1 9", "deafens 1 1 9", "steps 1").row("block 0", 0, 0, 2, 1, 9, 0).row("block 1", 0, 1, 2, 1, 4, 7);
        // One of step 0, sent twice, and one of step 1, of one terminal.
        told("of one by which was made first", "t1;c0 5 0 0;c0 0 0 0;s60;b0;r1 4;").does("comes 0 9", "deafens 0 0 9", "steps 1",
                "comes 1 5", "steps 1").row("block 0", 0, 0, 2, 2, 4, 7).row("block 1", 0, 0, 2, 1, 4, 10);
    }

    /** Each of three makes a block in each step, of which 18 are on the way: as many as there may ever be. */
    private static void mostBlocks() {
        String says = "BLOCKS are ON THE WAY";
        Tale tale = told(says, "t1;t1;t1;c0 0 0 0;c1 0 0 0;c2 0 0 0;s60;b0;r6 4;").does("comes 0 3", "comes 1 3", "comes 2 3", "steps 1",
                "deafens 0 1 199", "deafens 1 1 199", "deafens 2 1 199", "steps 18").due("count 7", 54);
        tale.does("steps 1").due("count 7", 54).row("block 0", 0, 0, 20, 3, 2, 0).row("block 53", 0, 2, 25, 1, 2, 0)
                .due("block 54 0", Tale.NONE).due("terminal 0 8", 18).due("terminal 2 8", 18);
        tale.does("steps 40").due("count 7", 54).due("sort 0 7", 1).stepsTo(199).due("count 7", 54).due("sort 2 7", 1)
                .due("block 53 0", 2).due("block 54 0", Tale.NONE);
    }

    // ---- promise 13: deaf

    private static void deafEdges() {
        told("DEAF in a STEP (0 .. 199)", "t1;t1;").due("deaf 0 0", 0).due("deaf 1 199", 0).does("deafens 0 0 0", "deafens 1 199 199")
                .due("deaf 0 0", 1).due("deaf 1 199", 1).due("deaf 1 0", 0).due("deaf 0 199", 0).due("deaf 1 198", 0).due("deaf 0 1", 0)
                .bad("deaf 0 -1", "deaf 0 200", "deaf -1 0", "deaf 2 0", "deaf 2 200", "deaf 0 2147483647", "deaf 0 -2147483648",
                        "deaf 2147483647 0", "deaf -2147483648 0");
        told("a STEP that has gone by, too", "t1;").does("deafens 0 3 5", "steps 40").due("deaf 0 2", 0).due("deaf 0 3", 1)
                .due("deaf 0 5", 1).due("deaf 0 6", 0);
        Tale.fresh(CHECK, "no TERMINALS").bad("deaf 0 0");
    }

    /** The 512th call answers as all others; a Tale does not make a 513th. */
    private static void mostCalls() {
        told("at most 512 calls", ONE).times(249, "comes 0 1", "undo").due("count 11", 0);
        told("at most 512 calls", ONE).does("comes 0 99").times(100, "steps 1", "enough 40", "undo", "drain").due("count 6", 0);
    }
}
