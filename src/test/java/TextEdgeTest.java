/** The edges that part 1 of the terms and the promises 1 to 4 name, each sentence by itself. */
public final class TextEdgeTest {
    private static final Check CHECK = new Check("TextEdgeTest");

    private static final String SIGNS = "tcsbr";
    private static final String SIX = "c0 0 0 0;".repeat(6);

    public static void main(String[] args) {
        threeTerminals();
        noTerminals();
        periods();
        sixClasses();
        noClasses();
        terminalToldAhead();
        priorities();
        rates();
        limits();
        rooms();
        bans();
        backs();
        tries();
        mostLetters();
        letterNumbers();
        blanks();
        noItems();
        itemsEnd();
        toldAgain();
        firstFault();
        faultAtTheEnds();
        otherLetters();
        numbersTooLarge();
        zeroAhead();
        endsTooEarly();
        newObject();
        clearing();
        itemsCounted();
        textIsEmptyThen();
        textStaysAtFault();
        faultOfABusyOne();
        readAnew();
        CHECK.end();
    }

    private static Tale right(String says, String text, int items) {
        return Tale.fresh(CHECK, says).types(text).due("cell", items).due("count 10", 0);
    }

    private static void fault(String says, String text, int place) {
        Tale.fresh(CHECK, says).types(text).refused("cell", -10 - place).due("count 10", text.length());
    }

    /** A number between these may stand there, and is told by the call; those beside them may not. */
    private static void within(String says, String ahead, String behind, int least, int most, String call) {
        int items = (ahead + behind).replaceAll("[^;]", "").length();
        for (int number : new int[] {least, least + 1, most - 1, most}) {
            right(says, ahead + number + behind, items).due(call, number);
        }
        if (least > 0) {
            fault(says, ahead + (least - 1) + behind, ahead.length());
        }
        fault(says, ahead + (most + 1) + behind, ahead.length());
        fault(says, ahead + "99" + behind, ahead.length());
    }

    // ---- part 1 of the terms

    private static void threeTerminals() {
        String says = "TERMINALS 0, 1, .. (3 at most)";
        right(says, "t1;", 1).due("count 0", 1).due("terminal 0 0", 1).bad("terminal 1 0");
        right(says, "t1;t2;", 2).due("count 0", 2).due("terminal 1 0", 2).bad("terminal 2 0");
        right(says, "t1;t2;t3;", 3).due("count 0", 3).due("terminal 2 0", 3).bad("terminal 3 0");
        fault(says, "t1;t2;t3;t4;", 9);
        fault("a fourth t, though what is behind it can't stand there either", "t1;t2;t3; tt", 10);
        fault("a fourth t, though the text ends there", "t1;t2;t3;t", 9);
    }

    private static void noTerminals() {
        right("no TERMINALS", "s9;b1;", 2).due("count 0", 0).bad("terminal 0 0", "deaf 0 0", "deafens 0 0 0");
    }

    private static void periods() {
        within("PERIOD (1 .. 9)", "t", ";", 1, 9, "terminal 0 0");
        within("PERIOD (1 .. 9)", "t1;t2;t", ";", 1, 9, "terminal 2 0");
    }

    private static void sixClasses() {
        String says = "CLASSES 0, 1, .. (6 at most)";
        for (int many = 1; many <= 6; many++) {
            right(says, "t1;" + "c0 0 0 0;".repeat(many), 1 + many).due("count 1", many)
                    .due("sort " + (many - 1) + " 0", 0).bad("sort " + many + " 0");
        }
        fault(says, "t1;" + SIX + "c0 0 0 0;", 57);
        fault("a seventh c, though what is behind it can't stand there either", "t1;" + SIX + " cc", 58);
        fault("a seventh c, though the text ends there", "t1;" + SIX + "c", 57);
        right("six CLASSES of three TERMINALS", "t1;t1;t1;c2 0 0 0;c1 0 0 0;c0 0 0 0;c0 0 0 0;c1 0 0 0;c2 0 0 0;", 9)
                .due("sort 0 0", 2).due("sort 1 0", 1).due("sort 2 0", 0).due("sort 5 0", 2);
    }

    private static void noClasses() {
        right("no CLASSES", "t1;t1;", 2).due("count 1", 0).due("terminal 1 5", 0)
                .bad("sort 0 0", "comes 0 1", "ahead 0 1").due("steps 40", 0).due("terminal 0 6", 0).due("drain", 0);
    }

    private static void terminalToldAhead() {
        String says = "of TERMINAL T, told ahead";
        right(says, "t1;c0 0 0 0;", 2).due("sort 0 0", 0);
        right(says, "t1;t1;c0 0 0 0;c1 0 0 0;", 4).due("sort 0 0", 0).due("sort 1 0", 1);
        right(says, "t1;t1;t1;c2 0 0 0;", 4).due("sort 0 0", 2);
        fault(says, "c0 0 0 0;", 1);
        fault(says, "t1;c1 0 0 0;", 4);
        fault(says, "t1;t1;c2 0 0 0;", 7);
        fault(says, "t1;t1;t1;c3 0 0 0;", 10);
        fault("told behind is not told ahead", "c0 0 0 0;t1;", 1);
        fault("told behind is not told ahead", "t1;t1;c2 0 0 0;t1;", 7);
        right("told behind another class is told ahead", "t1;c0 0 0 0;t1;c1 0 0 0;", 4).due("sort 1 0", 1);
    }

    private static void priorities() {
        within("PRIORITY (0 .. 9)", "t1;c0 ", " 0 0;", 0, 9, "sort 0 1");
    }

    private static void rates() {
        within("RATE (0 .. 20)", "t1;c0 0 ", " 0;", 0, 20, "sort 0 2");
    }

    private static void limits() {
        within("LIMIT (0 .. 60)", "t1;c0 0 0 ", ";", 0, 60, "sort 0 3");
        within("LIMIT (0 .. 60)", "t1;" + "c0 1 2 3;".repeat(5) + "c0 0 0 ", ";", 0, 60, "sort 5 3");
    }

    private static void rooms() {
        within("ROOM (0 .. 60)", "s", ";", 0, 60, "count 2");
        right("ROOM (20 at first)", "b1;r1 1;", 2).due("count 2", 20);
    }

    private static void bans() {
        within("BAN (0 .. 9)", "b", ";", 0, 9, "count 3");
        right("BAN (2 at first)", "s1;r1 1;", 2).due("count 3", 2);
    }

    private static void backs() {
        within("BACK (1 .. 6)", "r", " 1;", 1, 6, "count 4");
        right("BACK (4 at first)", "s1;b1;", 2).due("count 4", 4);
    }

    private static void tries() {
        within("TRIES (1 .. 4)", "r1 ", ";", 1, 4, "count 5");
        right("TRIES (3 at first)", "s1;b1;", 2).due("count 5", 3);
    }

    private static void mostLetters() {
        String says = "a text (120 letters at most)";
        String full = "t1;t1;t1;" + SIX + "s60;b9;r6 4;" + " ".repeat(45);
        Tale tale = Tale.fresh(CHECK, says).types(full.substring(0, 119)).due("type 32", 120);
        tale.refused("type 32", Tale.FULL).refused("type 59", Tale.FULL).due("count 10", 120);
        tale.due("cell", 12).due("count 10", 0).due("type 32", 1);
        Tale.fresh(CHECK, says).types(" ".repeat(120)).refused("type 120", Tale.FULL).due("cell", 0);
        Tale.fresh(CHECK, says).types(" ".repeat(120)).refused("type 255", Tale.FULL).due("clear", 120).due("type 0", 1);
    }

    private static void letterNumbers() {
        String says = "A letter (0 .. 255)";
        Tale.fresh(CHECK, says).due("type 0", 1).due("type 1", 2).due("type 254", 3).due("type 255", 4)
                .bad("type -1", "type 256", "type -2147483648", "type 2147483647", "type 371").due("count 10", 4);
        fault("a letter above 127 is another letter", (char) 243 + "1;", 0);
    }

    private static void blanks() {
        String says = "blanks (32) ahead of, between and behind TOKENS as may be";
        right(says, "   t   1   ;   c   0   1   2   3   ;   ", 2).due("sort 0 3", 3);
        right("none needed where TOKENS end without", "t1;c0 1 2 3;s4;b5;r6 4;", 5).due("count 4", 6);
        fault("a blank parts two numbers", "s1 2;", 3);
        fault("no blank parts a number from a letter", "s1s;", 2);
        right("as many as there may be", "s" + " ".repeat(58) + "7" + " ".repeat(59) + ";", 1).due("count 2", 7);
        for (int other : new int[] {9, 10, 13, 160, 0}) {
            fault("blanks are (32)", "s" + (char) other + "1;", 1);
            fault("blanks are (32)", (char) other + "s1;", 0);
            fault("blanks are (32)", "s1;" + (char) other, 3);
        }
    }

    private static void noItems() {
        String says = "ITEMS (none, too)";
        for (String text : new String[] {"", " ", " ".repeat(120)}) {
            right(says, text, 0).row("count", 0, 0, 0, 20, 2, 4, 3, 0, 0, Tale.NONE, 0, 0, 0);
        }
        Tale.told(CHECK, says, "t1;c0 1 2 3;s4;b5;r6 1;").due("cell", 0)
                .row("count", 0, 0, 0, 20, 2, 4, 3, 0, 0, Tale.NONE, 0, 0, 0);
    }

    private static void itemsEnd() {
        String says = "each ended by ;";
        for (String item : new String[] {"t1", "s5", "b5", "r5 1"}) {
            right(says, item + ";", 1);
            right(says, item + " ;", 1);
            fault(says, item, item.length());
            fault(says, item + item + ";", item.length());
            fault("one end", item + ";;", item.length() + 1);
            fault("no more than is told", item + " 1;", item.length() + 1);
        }
        fault(says, "t1;c0 0 0 0", 11);
        fault(says, "t1;c0 0 0 0c0 0 0 0;", 11);
        fault("no more than is told", "t1;c0 0 0 0 0;", 12);
        for (String item : new String[] {"t;", "s;", "b;", "r;", "t1;c;"}) {
            fault("no less than is told", item, item.length() - 1);
        }
        fault("no less than is told", "r1;", 2);
        fault("no less than is told", "t1;c0 0 0;", 9);
        fault("an item alone is no ;", ";", 0);
    }

    private static void toldAgain() {
        String says = "s, b, r told again are as told last";
        right(says, "s1;s60;s2;", 3).due("count 2", 2);
        right(says, "b1;b9;b0;", 3).due("count 3", 0);
        right(says, "r6 4;r1 1;r2 3;", 3).due("count 4", 2).due("count 5", 3);
        right(says, "s5;b5;r5 4;s20;b2;r4 3;", 6).row("count", 2, 20, 2, 4, 3);
        right("t and c told again are next ones", "t5;t6;c0 1 2 3;c0 1 2 3;", 4).due("count 0", 2).due("count 1", 2)
                .due("terminal 0 0", 5).due("terminal 1 0", 6);
    }

    private static void firstFault() {
        String says = "the first TOKEN that can't stand there";
        fault(says, "s61;s61;", 1);
        fault(says, "s1;s61;x", 4);
        fault(says, "s1;;s01;", 3);
        fault(says, "s1;s100;;", 4);
        fault(says, "s1;s1x;s1;;", 5);
        fault(says, "t1;c0 10 21 61;", 6);
        fault(says, "t1;c0 9 21 61;", 8);
        fault(says, "t1;c0 9 20 61;", 11);
        fault(says, "r7 5;", 1);
        fault(says, "r6 5;", 3);
        fault("a number where none is told", "5;", 0);
        fault("a letter where a number is told", "tt;", 1);
        fault("a letter where a number is told", "t1;c0 0 0 s;", 10);
        fault("the first letter of a TOKEN, behind blanks", "   s   99;", 7);
    }

    private static void faultAtTheEnds() {
        String says = "-10 less FAULT";
        fault(says, "x", 0);
        fault(says, "s", 1);
        fault(says, " ".repeat(118) + "xx", 118);
        fault(says, " ".repeat(119) + "x", 119);
        fault(says, " ".repeat(119) + "s", 120);
        fault(says, "s1;".repeat(39) + "s1 ", 120);
    }

    /** Each of the 256 letters, at the first place, and behind a sign, a number, an end and a c. */
    private static void otherLetters() {
        String says = "TOKENS are the letters t, c, s, b, r, NUMBERS and ;";
        for (int code = 0; code <= 255; code++) {
            char letter = (char) code;
            boolean digit = letter >= '0' && letter <= '9';
            boolean sign = SIGNS.indexOf(letter) >= 0;
            boolean blank = letter == ' ';
            cell(says, "" + letter, blank ? 0 : sign ? -11 : -10);
            cell(says, "s" + letter, digit || blank ? -12 : -11);
            cell(says, "s5" + letter, letter == ';' ? 1 : digit || blank ? -13 : -12);
            cell(says, "s5;" + letter, blank ? 1 : sign ? -14 : -13);
            cell(says, "t1;c" + letter, letter == '0' || blank ? -15 : -14);
        }
    }

    private static void cell(String says, String text, int want) {
        Tale.fresh(CHECK, says + " '" + text + "'").types(text).due("cell", want);
    }

    private static void numbersTooLarge() {
        String says = "a NUMBER above 99";
        for (String number : new String[] {"99", "100", "101", "255", "999", "4294967301", "18446744073709551621"}) {
            fault(says, "s" + number + ";", 1);
            fault(says, "t1;c0 0 0 " + number + " ;", 10);
        }
        fault("of one that ends the text, that TOKEN's place, too", "s100", 1);
        fault("of one that ends the text, that TOKEN's place, too", "s" + "9".repeat(119), 1);
        fault("of one where none is told, that TOKEN's place", "s1 100;", 3);
    }

    private static void zeroAhead() {
        String says = "a NUMBER with a 0 ahead of others";
        for (String number : new String[] {"00", "01", "05", "010", "000"}) {
            fault(says, "s" + number + ";", 1);
            fault(says, "t1;c0 0 " + number + " 0;", 8);
        }
        right("0 alone may be", "s0;", 1).due("count 2", 0);
        right("a 0 behind others may be", "s10;", 1).due("count 2", 10);
        right("a 0 behind others may be", "s60;", 1).due("count 2", 60);
        fault("four numbers need blanks", "t1;c0000;", 4);
        right("0 and 0, parted", "t1;c0 0 0 0;", 2);
    }

    /** Each beginning of a text: it is too early, unless an item has just ended. */
    private static void endsTooEarly() {
        String says = "the text's length, if it ends too early";
        String text = "t1; t9;c1 9 20 60;  c0 0 0 0 ;s60;b9;r6 4; s0 ; ";
        for (int length = 0; length <= text.length(); length++) {
            String begun = text.substring(0, length);
            String ended = begun.replaceAll(" *$", "");
            boolean right = ended.isEmpty() || ended.endsWith(";");
            cell(says, begun, right ? begun.replaceAll("[^;]", "").length() : -10 - length);
        }
    }

    // ---- promises 1 to 4

    private static void newObject() {
        Tale.fresh(CHECK, "no TERMINALS").row("count", 0, 0, 0, 20, 2, 4, 3, 0, 0, Tale.NONE, 0, 0, 0);
        Tale.fresh(CHECK, "no TERMINALS").bad("terminal 0 0", "sort 0 0", "deaf 0 0", "comes 0 1", "deafens 0 0 0", "ahead 0 1")
                .refused("undo", Tale.STATE).refused("back 0", Tale.STATE).refused("back 1", Tale.STATE);
        Tale.fresh(CHECK, "no TERMINALS").due("unseen", 0).due("drain", 0).due("enough 0", 0).due("enough 40", 0)
                .due("block 0 0", Tale.NONE).due("forget", 0).due("clear", 0).due("keep 0", 0).due("back 0", 0)
                .due("widens 5", 20).due("steps 1", 0).due("undo", 1).due("undo", 0).due("count 2", 20);
    }

    private static void clearing() {
        String says = "THE TEXT is empty: how many letters it had";
        Tale.fresh(CHECK, says).due("clear", 0).types("x").due("clear", 1).due("count 10", 0).due("clear", 0);
        Tale.fresh(CHECK, says).types("x".repeat(120)).due("clear", 120).due("type 115", 1).types("7;")
                .due("cell", 1).due("count 2", 7);
        Tale busy = busy();
        busy.twin().types("s1;x").due("clear", 4).isLike("clear() changes THE TEXT alone", busy);
    }

    private static void itemsCounted() {
        String says = "how many ITEMS";
        right(says, "s1;", 1);
        right(says, "s1;".repeat(40), 40);
        right(says, "t1;t1;t1;" + SIX, 9);
    }

    private static void textIsEmptyThen() {
        Tale.told(CHECK, "THE TEXT is empty then", "t1;").due("count 10", 0).due("clear", 0).types("t1;").due("cell", 1)
                .due("count 0", 1);
    }

    private static void textStaysAtFault() {
        String says = "nothing changes (THE TEXT, too, stays)";
        Tale.fresh(CHECK, says).types("s5").due("cell", -12).due("count 10", 2).due("cell", -12)
                .due("type 59", 3).due("cell", 1).due("count 2", 5);
        Tale.fresh(CHECK, says).types("s5x").due("cell", -12).due("type 59", 4).due("cell", -12).due("clear", 4);
        Tale.fresh(CHECK, says).types(" ".repeat(118) + "s1").due("cell", -130).refused("type 59", Tale.FULL);
    }

    private static Tale busy() {
        return Tale.told(CHECK, "busy", "t1;t2;c0 3 2 9;c1 0 0 0;c0 1 5 20;s9;b1;r2 3;")
                .does("comes 0 20", "comes 1 9", "deafens 0 1 3", "keep 0", "steps 3", "widens 12", "sees 2 3", "comes 2 1");
    }

    private static void faultOfABusyOne() {
        busy().types("t9;t9;t9;c2 1 1 1;s1;b1;r1 5;").refused("cell", -10 - 27);
        busy().types("t9;t9;t9;t9;").refused("cell", -10 - 9);
        busy().types("s1").refused("cell", -10 - 2);
    }

    private static void readAnew() {
        Tale tale = busy().types("t3;c0 1 2 3;").due("cell", 2);
        tale.row("count", 0, 1, 1).due("terminal 0 0", 3).row("sort 0", 0, 0, 1, 2, 3);
        tale.isLike("as told, else as at first; nothing COME, none DEAF, STEP 0",
                Tale.told(CHECK, "anew", "t3;c0 1 2 3;"));
        tale.due("count 9", 0).due("unseen", 1).due("forget", 0);
        tale.refused("undo", Tale.STATE).refused("back 0", Tale.STATE).refused("back 1", Tale.STATE);
        Tale other = busy().does("keep 1").types("b4;").due("cell", 1);
        other.isLike("as told, else as at first", Tale.told(CHECK, "anew", "b4;"));
        other.row("count", 2, 20, 4, 4, 3).refused("back 0", Tale.STATE).refused("back 1", Tale.STATE);
        // It ASKED in vain, and letters are LOST.
        Tale lost = Tale.told(CHECK, "anew", "t1;t1;c0 0 3 9;c1 0 3 9;r1 1;b0;").does("comes 0 9", "comes 1 9", "deafens 0 0 9", "deafens 1 0 9",
                "steps 1", "widens 0", "steps 1").due("terminal 0 3", 1).due("sort 0 7", 2).due("sort 1 7", 2);
        lost.types("t1;t1;c0 0 3 9;c1 0 3 9;").due("cell", 4).isLike("nothing COME, nobody ASKED, nothing LOST",
                Tale.told(CHECK, "anew", "t1;t1;c0 0 3 9;c1 0 3 9;"));
    }
}
