/** Promises 1 to 22: long runs of drawn calls, each answered as the model answers it. */
public final class ModelTest {
    private static final int RUNS = 700;
    private static final int TEXTS = 30000;
    private static final int CALLS = 512;

    private static final Check CHECK = new Check("ModelTest");

    private long seed;
    private UpwardGrants x;
    private Model model;
    private int calls;
    private int run;

    public static void main(String[] args) {
        ModelTest test = new ModelTest();
        for (int run = 1; run <= RUNS; run++) {
            test.play(run);
        }
        for (int run = 1; run <= TEXTS; run++) {
            test.read(run);
        }
        CHECK.end();
    }

    /** The same numbers in every run of the test: drawn by a rule, not by chance. */
    private int draw(int parts) {
        seed = seed * 6364136223846793005L + 1442695040888963407L;
        return (int) ((seed >>> 33) % parts);
    }

    private int draw(int least, int most) {
        return least + draw(most - least + 1);
    }

    private int oneOf(int... numbers) {
        return numbers[draw(numbers.length)];
    }

    /** Mostly a number as told, now and then one beside it. */
    private int number(int least, int most) {
        return draw(25) == 0 ? oneOf(least - 1, most + 1, least, most, Integer.MIN_VALUE, Integer.MAX_VALUE)
                : draw(least, most);
    }

    private void read(int number) {
        seed = number * 31337L + 5;
        x = new UpwardGrants();
        model = new Model();
        String text = draw(3) == 0 ? soup() : spoilt(setting());
        for (int i = 0; i < text.length(); i++) {
            x.type(text.charAt(i));
            model.type(text.charAt(i));
        }
        CHECK.due("cell() of '" + text + "'", x.cell(), model.cell());
        for (int what = 0; what <= 11; what++) {
            CHECK.due("count(" + what + ") behind '" + text + "'", x.count(what), model.count(what));
        }
    }

    private String soup() {
        StringBuilder text = new StringBuilder();
        for (int i = draw(0, 20); i > 0; i--) {
            text.append("t1;t2;s9;b3;r2 2;c0 0 0 0;  59x0".charAt(draw(31)));
        }
        return text.toString();
    }

    private String spoilt(String text) {
        StringBuilder all = new StringBuilder(text.length() > 120 ? text.substring(0, 120) : text);
        for (int i = draw(0, 2); i > 0 && all.length() > 0; i--) {
            int at = draw(all.length());
            switch (draw(4)) {
                case 0 -> all.deleteCharAt(at);
                case 1 -> all.insert(at, "tcsbr;0123456789 x".charAt(draw(18)));
                case 2 -> all.setCharAt(at, "tcsbr;0123456789 x".charAt(draw(18)));
                default -> all.setLength(at);
            }
        }
        return all.toString();
    }

    private String blanks(boolean needed) {
        return " ".repeat(needed ? 1 + draw(9) / 8 : draw(9) / 8);
    }

    private String setting() {
        StringBuilder text = new StringBuilder();
        int terminals = oneOf(1, 2, 2, 3, 3, 3, 0);
        if (draw(5) > 0) {
            text.append("s").append(blanks(false)).append(oneOf(0, 1, 2, 3, 4, 5, 6, 7, 9, 12, 20, 40, 60)).append(";");
        }
        if (draw(5) > 0) {
            text.append("b").append(oneOf(0, 0, 1, 2, 3, 9)).append(";");
        }
        if (draw(5) > 0) {
            text.append("r").append(draw(1, 6)).append(blanks(true)).append(draw(1, 4)).append(blanks(false)).append(";");
        }
        for (int t = 0; t < terminals; t++) {
            text.append("t").append(oneOf(1, 1, 1, 2, 3, 4, 5, 9)).append(blanks(false)).append(";");
        }
        for (int c = terminals == 0 ? 0 : draw(1, 6); c > 0; c--) {
            text.append("c").append(draw(terminals)).append(blanks(true)).append(oneOf(0, 1, 1, 2, 5, 9));
            text.append(blanks(true)).append(oneOf(0, 1, 2, 5, 20)).append(blanks(true));
            text.append(oneOf(0, 1, 4, 9, 30, 60)).append(blanks(false)).append(";");
        }
        return text.toString();
    }

    private void due(String call, int got, int want) {
        calls++;
        CHECK.due("run " + run + ", call " + calls + ": " + call, got, want);
    }

    private void play(int number) {
        run = number;
        seed = number * 7919L + 17;
        x = new UpwardGrants();
        model = new Model();
        calls = 0;
        tell();
        int loud = oneOf(0, 1, 3);
        while (calls < CALLS - 1) {
            int kind = draw(100);
            if (kind < 45) {
                act(loud);
            } else if (kind < 90) {
                ask();
            } else if (kind < 99) {
                remember();
            } else {
                tell();
            }
        }
    }

    private void tell() {
        String text = setting();
        if (text.length() + 1 > CALLS - calls - 20) {
            return;
        }
        if (draw(9) == 0) {
            text = spoilt(text);
        }
        for (int i = 0; i < text.length(); i++) {
            due("type(" + (int) text.charAt(i) + ")", x.type(text.charAt(i)), model.type(text.charAt(i)));
        }
        due("cell() of '" + text + "'", x.cell(), model.cell());
        if (draw(3) == 0) {
            due("clear()", x.clear(), model.clear());
        }
    }

    private int terminal() {
        return number(0, Math.max(0, model.count(0) - 1));
    }

    private int sort() {
        return number(0, Math.max(0, model.count(1) - 1));
    }

    private void act(int loud) {
        int now = model.count(6);
        switch (draw(8)) {
            case 0, 1, 2 -> {
                int c = sort();
                int n = oneOf(1, 2, 3, number(1, 12), number(1, 99), 99);
                due("comes(" + c + ", " + n + ")", x.comes(c, n), model.comes(c, n));
            }
            case 3, 4 -> {
                int n = oneOf(1, 1, 1, 2, 3, number(1, 7), number(1, 40) / (1 + draw(3)));
                due("steps(" + n + ")", x.steps(n), model.steps(n));
            }
            case 5 -> {
                if (draw(3) < loud) {
                    int t = terminal();
                    int f = oneOf(now, now, number(now, Math.min(199, now + 9)));
                    int e = oneOf(f, f + 1, f + 3, f + draw(12), number(0, 199));
                    due("deafens(" + t + ", " + f + ", " + e + ")", x.deafens(t, f, e), model.deafens(t, f, e));
                }
            }
            case 6 -> {
                int room = oneOf(number(0, 60), number(0, 12));
                due("widens(" + room + ")", x.widens(room), model.widens(room));
            }
            default -> due("undo()", x.undo(), model.undo());
        }
    }

    private void ask() {
        int n = number(1, 40);
        int what = draw(-1, 9);
        switch (draw(14)) {
            case 0, 1, 2 -> {
                int c = sort();
                due("sort(" + c + ", " + what + ")", x.sort(c, what), model.sort(c, what));
            }
            case 3, 4, 5 -> {
                int t = terminal();
                due("terminal(" + t + ", " + what + ")", x.terminal(t, what), model.terminal(t, what));
            }
            case 6, 7 -> {
                int k = draw(-1, 1 + model.count(7));
                what = draw(-1, 5);
                due("block(" + k + ", " + what + ")", x.block(k, what), model.block(k, what));
            }
            case 8 -> {
                int t = terminal();
                int step = oneOf(number(0, 199), number(0, 199), Math.max(0, model.count(6) - 1));
                due("deaf(" + t + ", " + step + ")", x.deaf(t, step), model.deaf(t, step));
            }
            case 9 -> due("drain()", x.drain(), model.drain());
            case 10 -> {
                int most = number(0, 40);
                due("enough(" + most + ")", x.enough(most), model.enough(most));
            }
            case 11 -> {
                int c = sort();
                due("ahead(" + c + ", " + n + ")", x.ahead(c, n), model.ahead(c, n));
            }
            default -> {
                what = draw(-1, 12);
                due("count(" + what + ")", x.count(what), model.count(what));
            }
        }
    }

    private void remember() {
        int image = number(0, 1);
        switch (draw(7)) {
            case 0, 1 -> see();
            case 2 -> due("forget()", x.forget(), model.forget());
            case 3, 4 -> due("unseen()", x.unseen(), model.unseen());
            case 5 -> due("keep(" + image + ")", x.keep(image), model.keep(image));
            default -> due("back(" + image + ")", x.back(image), model.back(image));
        }
    }

    /** Often what would be so with one of the terminals, so that it is not all unseen. */
    private void see() {
        int n = number(1, 40);
        int m = number(0, 9999);
        if (n >= 1 && n <= 40 && model.count(0) > 0 && draw(5) > 0) {
            Model.World world = model.world();
            world.deafen(draw(model.count(0)), world.now, Math.min(199, world.now + n - 1));
            m = world.steps(n);
        }
        due("sees(" + n + ", " + m + ")", x.sees(n, m), model.sees(n, m));
        due("unseen()", x.unseen(), model.unseen());
    }
}
