/** Counts and prints the answers that are not the ones that are due. */
final class Check {
    private final String name;
    private int made = 0;
    private int wrong = 0;

    Check(String name) {
        this.name = name;
    }

    void due(String call, long got, long want) {
        made++;
        if (got != want) {
            wrong++;
            System.out.println(name + ": " + call + " answered " + got + ", due is " + want);
        }
    }

    void end() {
        System.out.println(name + ": " + made + " answers, " + wrong + " not as due");
        if (wrong != 0 || made == 0) {
            System.exit(1);
        }
    }

    static void write(UpwardGrants x, String text) {
        for (int i = 0; i < text.length(); i++) {
            x.type(text.charAt(i));
        }
    }

    /** A new object that was told this. */
    static UpwardGrants told(String text) {
        UpwardGrants x = new UpwardGrants();
        write(x, text);
        if (x.cell() < 0) {
            throw new IllegalStateException("can't be told: " + text);
        }
        return x;
    }

    /** All that an object shows of itself, as a text. */
    static String shown(UpwardGrants x) {
        return things(x) + x.count(11);
    }

    /** All that, but for how many may be undone. */
    static String things(UpwardGrants x) {
        StringBuilder all = new StringBuilder();
        for (int what = 0; what <= 10; what++) {
            all.append(x.count(what)).append(' ');
        }
        for (int t = 0; t < x.count(0); t++) {
            for (int what = 0; what <= 8; what++) {
                all.append(x.terminal(t, what)).append(' ');
            }
        }
        for (int c = 0; c < x.count(1); c++) {
            for (int what = 0; what <= 8; what++) {
                all.append(x.sort(c, what)).append(' ');
            }
        }
        for (int k = 0; k < x.count(7); k++) {
            for (int what = 0; what <= 4; what++) {
                all.append(x.block(k, what)).append(' ');
            }
        }
        return all.toString();
    }

    /** A call that is refused answers so, and no count changes; Tale.refused looks at all the rest, too. */
    void refused(UpwardGrants x, String call, java.util.function.IntSupplier does, int want) {
        String before = counts(x);
        due(call, does.getAsInt(), want);
        due(call + " changes no count", counts(x).equals(before) ? 1 : 0, 1);
    }

    private static String counts(UpwardGrants x) {
        StringBuilder all = new StringBuilder();
        for (int what = 6; what <= 11; what++) {
            all.append(x.count(what)).append(' ');
        }
        return all.toString();
    }
}
