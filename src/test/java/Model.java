import java.util.ArrayList;
import java.util.Comparator;
import java.util.List;
import java.util.regex.Matcher;
import java.util.regex.Pattern;

/**
 * The document told once more, in another way than the program tells it: what was done is kept as a list of
 * deeds, and every answer is found by doing all of them again. So nothing needs to be copied, undone or put back.
 */
final class Model {
    private static final int BAD = -1, STATE = -2, FULL = -3, NONE = -9;

    static final class Told {
        int room = 20, ban = 2, back = 4, tries = 3, items = 0, fault = -1;
        final List<Integer> periods = new ArrayList<>();
        final List<int[]> classes = new ArrayList<>();
    }

    static final class Block {
        int terminal, made, due, sent, report = NONE;
        int[] letters = new int[6];

        int letters() {
            int all = 0;
            for (int n : letters) {
                all += n;
            }
            return all;
        }

        int content() {
            return letters() + (report >= 0 ? 2 : 0);
        }
    }

    static final class Terminal {
        boolean wants, asked;
        int till, thought, asks, granted;
        final boolean[] deaf = new boolean[200];
    }

    static final class World {
        final Told told;
        int now = 0, room, last = NONE;
        final List<Terminal> terminals = new ArrayList<>();
        final List<Block> blocks = new ArrayList<>();
        final int[] waits = new int[6], tokens = new int[6], through = new int[6], lost = new int[6];

        World(Told told, List<int[]> deeds) {
            this.told = told;
            room = told.room;
            for (int i = 0; i < told.periods.size(); i++) {
                terminals.add(new Terminal());
            }
            for (int[] deed : deeds) {
                switch (deed[0]) {
                    case 'c' -> come(deed[1], deed[2]);
                    case 's' -> steps(deed[1]);
                    case 'd' -> deafen(deed[1], deed[2], deed[3]);
                    default -> room = deed[1];
                }
            }
        }

        int deafen(int t, int f, int e) {
            int more = 0;
            for (int step = f; step <= e; step++) {
                if (!terminals.get(t).deaf[step]) {
                    terminals.get(t).deaf[step] = true;
                    more++;
                }
            }
            return more;
        }

        /** The classes of a terminal, the one that is ahead of all first. */
        List<Integer> classesOf(int t) {
            List<Integer> all = new ArrayList<>();
            for (int c = 0; c < told.classes.size(); c++) {
                if (told.classes.get(c)[0] == t) {
                    all.add(c);
                }
            }
            all.sort(Comparator.comparingInt((Integer c) -> told.classes.get(c)[1]).thenComparingInt(c -> c));
            return all;
        }

        int waiting(int t) {
            int all = 0;
            for (int c : classesOf(t)) {
                all += waits[c];
            }
            return all;
        }

        void come(int c, int letters) {
            int t = told.classes.get(c)[0];
            int upTo = 0;
            for (int one : classesOf(t)) {
                upTo += waits[one];
                if (one == c) {
                    break;
                }
            }
            if (upTo == 0) {
                terminals.get(t).wants = true;
            }
            waits[c] += letters;
        }

        int allThrough() {
            int all = 0;
            for (int n : through) {
                all += n;
            }
            return all;
        }

        boolean drained() {
            int all = blocks.size();
            for (int n : waits) {
                all += n;
            }
            return all == 0;
        }

        int steps(int n) {
            int before = allThrough();
            for (int i = 0; i < n; i++) {
                step();
            }
            return allThrough() - before;
        }

        void step() {
            for (int c = 0; c < told.classes.size(); c++) {
                int more = tokens[c] + told.classes.get(c)[2];
                tokens[c] = more > told.classes.get(c)[3] ? told.classes.get(c)[3] : more;
            }
            for (int t = 0; t < terminals.size(); t++) {
                Terminal one = terminals.get(t);
                if (one.wants && (now - t) % told.periods.get(t) == 0 && now >= one.till) {
                    one.asked = true;
                    one.asks++;
                    one.till = now + told.ban + 1;
                }
            }
            int left = room;
            List<Block> again = new ArrayList<>(inOrder());
            again.removeIf(b -> b.due != now);
            for (Block b : again) {
                left = left < b.content() ? 0 : left - b.content();
                send(b);
            }
            List<Integer> turn = new ArrayList<>();
            for (int t = 0; t < terminals.size(); t++) {
                turn.add(t);
            }
            // Those behind the last come first; the last itself comes at the end.
            int last = this.last;
            turn.sort(Comparator.comparingInt((Integer t) -> t > last ? 0 : 1).thenComparingInt(t -> t));
            for (int t : turn) {
                Terminal one = terminals.get(t);
                if (left == 0) {
                    break;
                }
                if (!one.asked && one.thought == 0) {
                    continue;
                }
                int grant = one.thought > 0 ? one.thought + 2 : 4;
                if (grant > left) {
                    grant = left;
                }
                left -= grant;
                one.granted += grant;
                one.asked = false;
                this.last = t;
                pack(t, grant);
            }
            now++;
        }

        void pack(int t, int grant) {
            Block b = new Block();
            b.terminal = t;
            b.made = now;
            Terminal one = terminals.get(t);
            int free = grant;
            boolean report = false;
            if (one.wants && free >= 2) {
                report = true;
                free -= 2;
            }
            for (int round = 0; round < 2; round++) {
                for (int c : classesOf(t)) {
                    while (waits[c] > 0 && free > 0 && (round == 1 || tokens[c] > 0)) {
                        waits[c]--;
                        free--;
                        b.letters[c]++;
                        tokens[c] -= round == 0 ? 1 : 0;
                    }
                }
            }
            if (free >= 2) {
                report = true;
            }
            if (report) {
                b.report = waiting(t);
                one.wants = false;
            }
            if (b.content() > 0) {
                blocks.add(b);
                send(b);
            }
        }

        void send(Block b) {
            Terminal one = terminals.get(b.terminal);
            b.sent++;
            boolean deaf = now < 200 && one.deaf[now];
            if (deaf && b.sent < told.tries) {
                b.due = now + told.back;
                return;
            }
            blocks.remove(b);
            for (int c = 0; c < 6; c++) {
                (deaf ? lost : through)[c] += b.letters[c];
            }
            if (deaf) {
                one.wants = true;
            } else if (b.report >= 0) {
                one.thought = b.report;
            } else {
                one.thought -= b.letters() < one.thought ? b.letters() : one.thought;
            }
        }

        List<Block> inOrder() {
            List<Block> all = new ArrayList<>(blocks);
            all.sort(Comparator.comparingInt((Block b) -> b.due)
                    .thenComparingInt(b -> b.terminal).thenComparingInt(b -> b.made));
            return all;
        }

        int drainedIn(int most) {
            for (int n = 0; n <= most; n++) {
                if (drained()) {
                    return n;
                }
                step();
            }
            return NONE;
        }
    }

    private final StringBuilder text = new StringBuilder();
    private Told told = new Told();
    private List<int[]> deeds = new ArrayList<>();
    private int undoable = 0;
    private final List<int[]> seen = new ArrayList<>();
    private final List<List<int[]>> images = new ArrayList<>(List.of(List.of(), List.of()));
    private final boolean[] kept = new boolean[2];

    World world() {
        return new World(told, deeds);
    }

    private World worldWith(int... deed) {
        List<int[]> more = new ArrayList<>(deeds);
        more.add(deed);
        return new World(told, more);
    }

    private void doIt(int... deed) {
        deeds.add(deed);
        undoable = undoable == 8 ? 8 : undoable + 1;
    }

    private boolean noTerminal(int t) {
        return t < 0 || t >= told.periods.size();
    }

    private boolean noClass(int c) {
        return c < 0 || c >= told.classes.size();
    }

    private static boolean not(int n, int least, int most) {
        return n < least || n > most;
    }

    static Told read(String text) {
        Told told = new Told();
        Matcher tokens = Pattern.compile("[0-9]+|[^ ]", Pattern.DOTALL).matcher(text);
        List<int[]> wanted = new ArrayList<>();
        List<Integer> item = new ArrayList<>();
        while (tokens.find()) {
            String token = tokens.group();
            told.fault = tokens.start();
            if (item.isEmpty()) {
                switch (token) {
                    case "t" -> wanted = new ArrayList<>(List.of(new int[] {1, 9}));
                    case "c" -> wanted = new ArrayList<>(List.of(new int[] {0, told.periods.size() - 1},
                            new int[] {0, 9}, new int[] {0, 20}, new int[] {0, 60}));
                    case "s" -> wanted = new ArrayList<>(List.of(new int[] {0, 60}));
                    case "b" -> wanted = new ArrayList<>(List.of(new int[] {0, 9}));
                    case "r" -> wanted = new ArrayList<>(List.of(new int[] {1, 6}, new int[] {1, 4}));
                    default -> {
                        return told;
                    }
                }
                if (token.equals("t") && told.periods.size() == 3 || token.equals("c") && told.classes.size() == 6) {
                    return told;
                }
                item.add((int) token.charAt(0));
            } else if (wanted.isEmpty()) {
                if (!token.equals(";")) {
                    return told;
                }
                take(told, item);
                item.clear();
                told.items++;
            } else {
                if (!token.matches("0|[1-9][0-9]?")) {
                    return told;
                }
                int number = Integer.parseInt(token);
                if (not(number, wanted.get(0)[0], wanted.get(0)[1])) {
                    return told;
                }
                wanted.remove(0);
                item.add(number);
            }
        }
        told.fault = item.isEmpty() ? -1 : text.length();
        return told;
    }

    private static void take(Told told, List<Integer> item) {
        switch (item.get(0)) {
            case (int) 't' -> told.periods.add(item.get(1));
            case (int) 'c' -> told.classes.add(new int[] {item.get(1), item.get(2), item.get(3), item.get(4)});
            case (int) 's' -> told.room = item.get(1);
            case (int) 'b' -> told.ban = item.get(1);
            default -> {
                told.back = item.get(1);
                told.tries = item.get(2);
            }
        }
    }

    int type(int letter) {
        if (not(letter, 0, 255)) {
            return BAD;
        }
        if (text.length() == 120) {
            return FULL;
        }
        return text.append((char) letter).length();
    }

    int clear() {
        int had = text.length();
        text.setLength(0);
        return had;
    }

    int cell() {
        Told next = read(text.toString());
        if (next.fault >= 0) {
            return -10 - next.fault;
        }
        told = next;
        clear();
        deeds = new ArrayList<>();
        undoable = 0;
        seen.clear();
        kept[0] = false;
        kept[1] = false;
        return told.items;
    }

    int comes(int c, int letters) {
        if (noClass(c) || not(letters, 1, 99)) {
            return BAD;
        }
        if (world().waits[c] + letters > 999) {
            return FULL;
        }
        doIt('c', c, letters);
        return world().waits[c];
    }

    int steps(int n) {
        if (not(n, 1, 40)) {
            return BAD;
        }
        World w = world();
        if (w.now + n > 199) {
            return STATE;
        }
        doIt('s', n);
        return w.steps(n);
    }

    int deafens(int t, int f, int e) {
        World w = world();
        if (noTerminal(t) || not(f, w.now, 199) || not(e, f, 199)) {
            return BAD;
        }
        doIt('d', t, f, e);
        return w.deafen(t, f, e);
    }

    int widens(int room) {
        if (not(room, 0, 60)) {
            return BAD;
        }
        int was = world().room;
        if (was == room) {
            return STATE;
        }
        doIt('w', room);
        return was;
    }

    int undo() {
        if (undoable == 0) {
            return STATE;
        }
        deeds.remove(deeds.size() - 1);
        undoable--;
        return undoable;
    }

    int sort(int c, int what) {
        if (noClass(c) || not(what, 0, 8)) {
            return BAD;
        }
        World w = world();
        int onTheWay = 0;
        for (Block b : w.blocks) {
            onTheWay += b.letters[c];
        }
        int[] told = this.told.classes.get(c);
        return new int[] {told[0], told[1], told[2], told[3],
            w.waits[c], w.tokens[c], w.through[c], w.lost[c], onTheWay}[what];
    }

    int terminal(int t, int what) {
        if (noTerminal(t) || not(what, 0, 8)) {
            return BAD;
        }
        World w = world();
        Terminal one = w.terminals.get(t);
        int blocks = 0;
        for (Block b : w.blocks) {
            blocks += b.terminal == t ? 1 : 0;
        }
        return new int[] {told.periods.get(t), one.wants ? 1 : 0, one.till, one.asked ? 1 : 0, one.thought,
            w.waiting(t), one.asks, one.granted, blocks}[what];
    }

    int block(int k, int what) {
        if (k < 0 || not(what, 0, 4)) {
            return BAD;
        }
        List<Block> all = world().inOrder();
        if (k >= all.size()) {
            return NONE;
        }
        Block b = all.get(k);
        return new int[] {b.terminal, b.due, b.sent, b.content(), b.report}[what];
    }

    int deaf(int t, int step) {
        if (noTerminal(t) || not(step, 0, 199)) {
            return BAD;
        }
        return world().terminals.get(t).deaf[step] ? 1 : 0;
    }

    int drain() {
        return world().drainedIn(100);
    }

    int enough(int n) {
        if (not(n, 0, 40)) {
            return BAD;
        }
        for (int room = 0; room <= 60; room++) {
            if (worldWith('w', room).drainedIn(n) != NONE) {
                return room;
            }
        }
        return NONE;
    }

    int ahead(int c, int n) {
        if (noClass(c) || not(n, 1, 40)) {
            return BAD;
        }
        return worldWith('s', n).through[c] - world().through[c];
    }

    int sees(int n, int m) {
        if (not(n, 1, 40) || not(m, 0, 9999)) {
            return BAD;
        }
        if (seen.size() == 4) {
            return FULL;
        }
        seen.add(new int[] {n, m});
        return seen.size();
    }

    int forget() {
        int had = seen.size();
        seen.clear();
        return had;
    }

    int unseen() {
        int bits = 0;
        for (int t = 0; t < told.periods.size(); t++) {
            boolean so = true;
            for (int[] one : seen) {
                int now = world().now;
                World w = worldWith('d', t, now, Math.min(199, now + one[0] - 1));
                so &= w.steps(one[0]) == one[1];
            }
            bits += so ? 1 << t : 0;
        }
        return bits;
    }

    int keep(int image) {
        if (not(image, 0, 1)) {
            return BAD;
        }
        images.set(image, new ArrayList<>(deeds));
        kept[image] = true;
        return world().now;
    }

    int back(int image) {
        if (not(image, 0, 1)) {
            return BAD;
        }
        if (!kept[image]) {
            return STATE;
        }
        deeds = new ArrayList<>(images.get(image));
        undoable = 0;
        return world().now;
    }

    int count(int what) {
        if (not(what, 0, 11)) {
            return BAD;
        }
        World w = world();
        return new int[] {told.periods.size(), told.classes.size(), w.room, told.ban, told.back, told.tries,
            w.now, w.blocks.size(), w.last, seen.size(), text.length(), undoable}[what];
    }
}
