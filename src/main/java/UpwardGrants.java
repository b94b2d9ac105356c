import java.util.Arrays;

/**
 * Terminals whose classes of letters wait to be sent up to one station.
 * What each call answers is told in the document's promises; README.md says where.
 */
public final class UpwardGrants {
    public static final int BAD = -1, STATE = -2, FULL = -3, NONE = -9;

    private static final int MOST_LETTER = 255;
    private static final int MOST_TEXT = 120;
    private static final int MOST_TERMINALS = 3;
    private static final int MOST_CLASSES = 6;
    private static final int MOST_PERIOD = 9;
    private static final int MOST_PRIORITY = 9;
    private static final int MOST_RATE = 20;
    private static final int MOST_LIMIT = 60;
    private static final int MOST_ROOM = 60;
    private static final int MOST_BAN = 9;
    private static final int MOST_BACK = 6;
    private static final int MOST_TRIES = 4;
    private static final int FIRST_ROOM = 20;
    private static final int FIRST_BAN = 2;
    private static final int FIRST_BACK = 4;
    private static final int FIRST_TRIES = 3;
    private static final int MOST_COMING = 99;
    private static final int MOST_WAITING = 999;
    private static final int MOST_STEPS = 40;
    private static final int LAST_STEP = 199;
    private static final int MOST_DRAIN = 100;
    private static final int MOST_SEEN = 4;
    private static final int MOST_SEEN_LETTERS = 9999;
    private static final int MOST_UNDONE = 8;
    private static final int REPORT_ROOM = 2;
    private static final int ASKED_GRANT = 4;
    // A terminal makes one block a step at most, and each is gone 18 steps behind its
    // making (BACK times TRIES less 1): so 3 times 19 are the most while a step goes on.
    private static final int MOST_BLOCKS = 60;

    private final Text text = new Text();
    private final Setup setup = new Setup();
    private final Setup draft = new Setup();
    private final State state = new State();
    private final State trialState = new State();
    private final Station station = new Station(setup, state);
    private final Station trial = new Station(setup, trialState);
    private final History history = new History();
    private final Image firstImage = new Image();
    private final Image secondImage = new Image();
    private final int[] seenSteps = new int[MOST_SEEN];
    private final int[] seenLetters = new int[MOST_SEEN];
    private int seen = 0;

    public UpwardGrants() {
        beginAnew();
    }

    // ---- what is told

    public int type(int letter) {
        if (!isWithin(letter, 0, MOST_LETTER)) {
            return BAD;
        }
        return text.add(letter) ? text.length : FULL;
    }

    public int clear() {
        return text.empty();
    }

    public int cell() {
        int items = text.readInto(draft);
        if (items < 0) {
            return items;
        }
        setup.copyFrom(draft);
        text.empty();
        beginAnew();
        return items;
    }

    // ---- what is done

    public int comes(int c, int letters) {
        if (!hasClass(c) || !isWithin(letters, 1, MOST_COMING)) {
            return BAD;
        }
        if (state.waits[c] + letters > MOST_WAITING) {
            return FULL;
        }
        history.remember(state);
        station.bring(c, letters);
        return state.waits[c];
    }

    public int steps(int n) {
        if (!isWithin(n, 1, MOST_STEPS)) {
            return BAD;
        }
        if (state.now + n > LAST_STEP) {
            return STATE;
        }
        history.remember(state);
        return station.takeSteps(n);
    }

    public int deafens(int t, int f, int e) {
        if (!hasTerminal(t) || !isWithin(f, state.now, LAST_STEP) || !isWithin(e, f, LAST_STEP)) {
            return BAD;
        }
        history.remember(state);
        return state.makeDeaf(t, f, e);
    }

    public int widens(int room) {
        if (!isWithin(room, 0, MOST_ROOM)) {
            return BAD;
        }
        int before = state.room;
        if (room == before) {
            return STATE;
        }
        history.remember(state);
        state.room = room;
        return before;
    }

    public int undo() {
        return history.takeBack(state) ? history.known : STATE;
    }

    // ---- how things are

    public int sort(int c, int what) {
        if (!hasClass(c)) {
            return BAD;
        }
        switch (what) {
            case 0: return setup.owner[c];
            case 1: return setup.priority[c];
            case 2: return setup.rate[c];
            case 3: return setup.limit[c];
            case 4: return state.waits[c];
            case 5: return state.tokens[c];
            case 6: return state.through[c];
            case 7: return state.lost[c];
            case 8: return state.blocks.lettersOnTheWay(c);
            default: return BAD;
        }
    }

    public int terminal(int t, int what) {
        if (!hasTerminal(t)) {
            return BAD;
        }
        switch (what) {
            case 0: return setup.period[t];
            case 1: return state.wants[t];
            case 2: return state.bannedTill[t];
            case 3: return state.asked[t];
            case 4: return state.thought[t];
            case 5: return station.waitingAt(t);
            case 6: return state.asks[t];
            case 7: return state.granted[t];
            case 8: return state.blocks.blocksOf(t);
            default: return BAD;
        }
    }

    public int block(int k, int what) {
        if (k < 0 || !isWithin(what, 0, 4)) {
            return BAD;
        }
        int place = state.blocks.placeOf(k);
        return place < 0 ? NONE : state.blocks.told(place, what);
    }

    public int deaf(int t, int step) {
        if (!hasTerminal(t) || !isWithin(step, 0, LAST_STEP)) {
            return BAD;
        }
        return state.isDeaf(t, step) ? 1 : 0;
    }

    // ---- what would come

    public int drain() {
        trialState.copyFrom(state);
        return trial.drainedWithin(MOST_DRAIN);
    }

    public int enough(int n) {
        if (!isWithin(n, 0, MOST_STEPS)) {
            return BAD;
        }
        // Nothing says that more room never takes longer, so each is tried.
        for (int room = 0; room <= MOST_ROOM; room++) {
            trialState.copyFrom(state);
            trialState.room = room;
            if (trial.drainedWithin(n) != NONE) {
                return room;
            }
        }
        return NONE;
    }

    public int ahead(int c, int n) {
        if (!hasClass(c) || !isWithin(n, 1, MOST_STEPS)) {
            return BAD;
        }
        trialState.copyFrom(state);
        trial.takeSteps(n);
        return trialState.through[c] - state.through[c];
    }

    // ---- which terminal

    public int sees(int n, int m) {
        if (!isWithin(n, 1, MOST_STEPS) || !isWithin(m, 0, MOST_SEEN_LETTERS)) {
            return BAD;
        }
        if (seen >= MOST_SEEN) {
            return FULL;
        }
        seenSteps[seen] = n;
        seenLetters[seen] = m;
        seen++;
        return seen;
    }

    public int forget() {
        int before = seen;
        seen = 0;
        return before;
    }

    public int unseen() {
        int bits = 0;
        for (int t = 0; t < setup.terminals; t++) {
            if (explainsAllSeen(t)) {
                bits |= 1 << t;
            }
        }
        return bits;
    }

    // ---- images

    public int keep(int image) {
        if (!isWithin(image, 0, 1)) {
            return BAD;
        }
        imageAt(image).take(state);
        return state.now;
    }

    public int back(int image) {
        if (!isWithin(image, 0, 1)) {
            return BAD;
        }
        Image kept = imageAt(image);
        if (!kept.there) {
            return STATE;
        }
        state.copyFrom(kept.state);
        history.known = 0;
        return state.now;
    }

    public int count(int what) {
        switch (what) {
            case 0: return setup.terminals;
            case 1: return setup.classes;
            case 2: return state.room;
            case 3: return setup.ban;
            case 4: return setup.back;
            case 5: return setup.tries;
            case 6: return state.now;
            case 7: return state.blocks.size;
            case 8: return state.last;
            case 9: return seen;
            case 10: return text.length;
            case 11: return history.known;
            default: return BAD;
        }
    }

    // ---- what the calls share

    private void beginAnew() {
        state.begin(setup.room);
        history.known = 0;
        firstImage.there = false;
        secondImage.there = false;
        seen = 0;
    }

    private boolean hasTerminal(int t) {
        return t >= 0 && t < setup.terminals;
    }

    private boolean hasClass(int c) {
        return c >= 0 && c < setup.classes;
    }

    private Image imageAt(int image) {
        return image == 0 ? firstImage : secondImage;
    }

    private boolean explainsAllSeen(int t) {
        for (int i = 0; i < seen && i < MOST_SEEN; i++) {
            trialState.copyFrom(state);
            trialState.makeDeaf(t, state.now, state.now + seenSteps[i] - 1);
            if (trial.takeSteps(seenSteps[i]) != seenLetters[i]) {
                return false;
            }
        }
        return true;
    }

    private static boolean isWithin(int number, int least, int most) {
        return number >= least && number <= most;
    }

    /** What the text told. The room here is the one told; what widens makes of it is the state's. */
    private static final class Setup {
        int terminals;
        int classes;
        int room;
        int ban;
        int back;
        int tries;
        final int[] period = new int[MOST_TERMINALS];
        final int[] owner = new int[MOST_CLASSES];
        final int[] priority = new int[MOST_CLASSES];
        final int[] rate = new int[MOST_CLASSES];
        final int[] limit = new int[MOST_CLASSES];

        Setup() {
            begin();
        }

        void begin() {
            terminals = 0;
            classes = 0;
            room = FIRST_ROOM;
            ban = FIRST_BAN;
            back = FIRST_BACK;
            tries = FIRST_TRIES;
        }

        void copyFrom(Setup other) {
            terminals = other.terminals;
            classes = other.classes;
            room = other.room;
            ban = other.ban;
            back = other.back;
            tries = other.tries;
            copyRow(other.period, period);
            copyRow(other.owner, owner);
            copyRow(other.priority, priority);
            copyRow(other.rate, rate);
            copyRow(other.limit, limit);
        }

        boolean isAhead(int c, int other) {
            return priority[c] < priority[other] || priority[c] == priority[other] && c < other;
        }

        /** Whether a step is one of those in which a terminal has its place to ask. */
        boolean isPlaceToAsk(int t, int step) {
            int parts = period[t];
            return parts > 0 && step % parts == t % parts;
        }
    }

    /** The letters typed, and the reading of them, token by token. */
    private static final class Text {
        private static final int NUMBER = '0';
        private static final int OTHER = '?';
        private static final int END = '.';
        private static final int MOST_NUMBER = 99;
        private static final int FAULT_BASE = -10;

        final char[] letters = new char[MOST_TEXT];
        int length = 0;
        private int place;
        private int tokenPlace;
        private int token;
        private int number;

        boolean add(int letter) {
            if (length >= MOST_TEXT) {
                return false;
            }
            letters[length] = (char) letter;
            length++;
            return true;
        }

        int empty() {
            int before = length;
            length = 0;
            return before;
        }

        /**
         * How many items there are, or FAULT_BASE less the place of the token at which reading stopped:
         * each item's reader leaves at false, so the token read last is the one that can't stand there.
         */
        int readInto(Setup told) {
            told.begin();
            place = 0;
            for (int items = 0; items <= MOST_TEXT; items++) {
                nextToken();
                boolean isRight = false;
                switch (token) {
                    case END: return items;
                    case 't': isRight = readTerminal(told); break;
                    case 'c': isRight = readClass(told); break;
                    case 's': isRight = readRoom(told); break;
                    case 'b': isRight = readBan(told); break;
                    case 'r': isRight = readBackAndTries(told); break;
                    default: break;
                }
                if (!isRight || !readEnd()) {
                    return FAULT_BASE - tokenPlace;
                }
            }
            return FAULT_BASE - tokenPlace;
        }

        private boolean readTerminal(Setup told) {
            int t = told.terminals;
            if (t >= MOST_TERMINALS || !readNumber(1, MOST_PERIOD)) {
                return false;
            }
            told.period[t] = number;
            told.terminals = t + 1;
            return true;
        }

        private boolean readClass(Setup told) {
            int c = told.classes;
            if (c >= MOST_CLASSES || !readNumber(0, told.terminals - 1)) {
                return false;
            }
            told.owner[c] = number;
            if (!readNumber(0, MOST_PRIORITY)) {
                return false;
            }
            told.priority[c] = number;
            if (!readNumber(0, MOST_RATE)) {
                return false;
            }
            told.rate[c] = number;
            if (!readNumber(0, MOST_LIMIT)) {
                return false;
            }
            told.limit[c] = number;
            told.classes = c + 1;
            return true;
        }

        private boolean readRoom(Setup told) {
            if (!readNumber(0, MOST_ROOM)) {
                return false;
            }
            told.room = number;
            return true;
        }

        private boolean readBan(Setup told) {
            if (!readNumber(0, MOST_BAN)) {
                return false;
            }
            told.ban = number;
            return true;
        }

        private boolean readBackAndTries(Setup told) {
            if (!readNumber(1, MOST_BACK)) {
                return false;
            }
            told.back = number;
            if (!readNumber(1, MOST_TRIES)) {
                return false;
            }
            told.tries = number;
            return true;
        }

        private boolean readEnd() {
            nextToken();
            return token == ';';
        }

        private boolean readNumber(int least, int most) {
            nextToken();
            return token == NUMBER && number >= least && number <= most;
        }

        private void nextToken() {
            while (place < length && letterAt(place) == ' ') {
                place++;
            }
            tokenPlace = place;
            char letter = letterAt(place);
            if (isDigit(letter)) {
                nextNumber();
                return;
            }
            if (place >= length) {
                token = END;
                return;
            }
            token = isSign(letter) ? letter : OTHER;
            place++;
        }

        private void nextNumber() {
            boolean isRight = true;
            number = 0;
            while (place < length && isDigit(letterAt(place))) {
                isRight = isRight && (place == tokenPlace || number > 0);
                // Held at the first value that is too large, so that no run of digits wraps around.
                number = Math.min(MOST_NUMBER + 1, number * 10 + letterAt(place) - '0');
                place++;
            }
            token = isRight && number <= MOST_NUMBER ? NUMBER : OTHER;
        }

        private char letterAt(int at) {
            return at >= 0 && at < length && at < MOST_TEXT ? letters[at] : 0;
        }

        private static boolean isDigit(char letter) {
            return letter >= '0' && letter <= '9';
        }

        private static boolean isSign(char letter) {
            return letter == 't' || letter == 'c' || letter == 's' || letter == 'b' || letter == 'r' || letter == ';';
        }
    }

    /** The blocks on the way, those made first ahead. */
    private static final class Blocks {
        private static final int GONE = -1;

        int size = 0;
        private final int[] terminal = new int[MOST_BLOCKS];
        private final int[] due = new int[MOST_BLOCKS];
        private final int[] sent = new int[MOST_BLOCKS];
        private final int[] report = new int[MOST_BLOCKS];
        private final int[] letters = new int[MOST_BLOCKS * MOST_CLASSES];

        /** A new block with nothing in it yet; -1 if there is no place for one. */
        int open(int t) {
            if (size < 0 || size >= MOST_BLOCKS) {
                return -1;
            }
            int k = size;
            terminal[k] = t;
            due[k] = GONE;
            sent[k] = 0;
            report[k] = NONE;
            for (int c = 0; c < MOST_CLASSES; c++) {
                letters[k * MOST_CLASSES + c] = 0;
            }
            size++;
            return k;
        }

        boolean isDue(int k, int t, int step) {
            return k >= 0 && k < MOST_BLOCKS && terminal[k] == t && due[k] == step;
        }

        void putLetters(int k, int c, int many) {
            int at = k * MOST_CLASSES + c;
            if (at >= 0 && at < letters.length) {
                letters[at] += many;
            }
        }

        int lettersOf(int k, int c) {
            int at = k * MOST_CLASSES + c;
            return at >= 0 && at < letters.length ? letters[at] : 0;
        }

        void addLettersTo(int[] row, int k) {
            int first = k * MOST_CLASSES;
            for (int c = 0; c < MOST_CLASSES && c < row.length; c++) {
                int at = first + c;
                row[c] += at >= 0 && at < letters.length ? letters[at] : 0;
            }
        }

        int allLetters(int k) {
            int first = k * MOST_CLASSES;
            int all = 0;
            for (int at = first; at >= 0 && at < first + MOST_CLASSES && at < letters.length; at++) {
                all += letters[at];
            }
            return all;
        }

        void putReport(int k, int says) {
            if (k >= 0 && k < MOST_BLOCKS) {
                report[k] = says;
            }
        }

        int reportOf(int k) {
            return k >= 0 && k < MOST_BLOCKS ? report[k] : NONE;
        }

        int content(int k) {
            return allLetters(k) + (reportOf(k) == NONE ? 0 : REPORT_ROOM);
        }

        /** One more sending of it: how many that makes. */
        int countSending(int k) {
            if (k < 0 || k >= MOST_BLOCKS) {
                return 0;
            }
            sent[k]++;
            return sent[k];
        }

        void putDue(int k, int step) {
            if (k >= 0 && k < MOST_BLOCKS) {
                due[k] = step;
            }
        }

        /** It stays in the row till dropGone(), so that the places of the others hold while a step goes on. */
        void markGone(int k) {
            if (k >= 0 && k < MOST_BLOCKS) {
                due[k] = GONE;
            }
        }

        void dropGone() {
            int left = 0;
            for (int k = 0; k < size && k < MOST_BLOCKS; k++) {
                if (due[k] != GONE) {
                    move(k, left);
                    left++;
                }
            }
            size = left;
        }

        private void move(int from, int to) {
            if (to < 0 || to >= from || from >= MOST_BLOCKS) {
                return;
            }
            terminal[to] = terminal[from];
            due[to] = due[from];
            sent[to] = sent[from];
            report[to] = report[from];
            for (int c = 0; c < MOST_CLASSES; c++) {
                letters[to * MOST_CLASSES + c] = letters[from * MOST_CLASSES + c];
            }
        }

        /** Where the one stands that has k others ahead of it in the order told; -1 if there is none. */
        int placeOf(int k) {
            for (int place = 0; place < size && place < MOST_BLOCKS; place++) {
                int others = 0;
                for (int other = 0; other < size && other < MOST_BLOCKS; other++) {
                    others += isEarlier(other, place) ? 1 : 0;
                }
                if (others == k) {
                    return place;
                }
            }
            return -1;
        }

        private boolean isEarlier(int a, int b) {
            if (due[a] != due[b]) {
                return due[a] < due[b];
            }
            return terminal[a] != terminal[b] ? terminal[a] < terminal[b] : a < b;
        }

        int told(int k, int what) {
            if (k < 0 || k >= MOST_BLOCKS) {
                return NONE;
            }
            switch (what) {
                case 0: return terminal[k];
                case 1: return due[k];
                case 2: return sent[k];
                case 3: return content(k);
                default: return report[k];
            }
        }

        int lettersOnTheWay(int c) {
            int all = 0;
            for (int k = 0; k < size; k++) {
                all += lettersOf(k, c);
            }
            return all;
        }

        int blocksOf(int t) {
            int all = 0;
            for (int k = 0; k < size && k < MOST_BLOCKS; k++) {
                all += terminal[k] == t ? 1 : 0;
            }
            return all;
        }

        void copyFrom(Blocks other) {
            size = other.size;
            copyRow(other.terminal, terminal);
            copyRow(other.due, due);
            copyRow(other.sent, sent);
            copyRow(other.report, report);
            copyRow(other.letters, letters);
        }
    }

    /** All that comes, steps, deafens and widens change: so all that undo, back and the trials need to copy. */
    private static final class State {
        int now;
        int room;
        int last;
        final int[] wants = new int[MOST_TERMINALS];
        final int[] bannedTill = new int[MOST_TERMINALS];
        final int[] asked = new int[MOST_TERMINALS];
        final int[] thought = new int[MOST_TERMINALS];
        final int[] asks = new int[MOST_TERMINALS];
        final int[] granted = new int[MOST_TERMINALS];
        final int[] waits = new int[MOST_CLASSES];
        final int[] tokens = new int[MOST_CLASSES];
        final int[] through = new int[MOST_CLASSES];
        final int[] lost = new int[MOST_CLASSES];
        final int[] deafBits = new int[LAST_STEP + 1];
        final Blocks blocks = new Blocks();

        void begin(int toldRoom) {
            now = 0;
            room = toldRoom;
            last = NONE;
            Arrays.fill(wants, 0);
            Arrays.fill(bannedTill, 0);
            Arrays.fill(asked, 0);
            Arrays.fill(thought, 0);
            Arrays.fill(asks, 0);
            Arrays.fill(granted, 0);
            Arrays.fill(waits, 0);
            Arrays.fill(tokens, 0);
            Arrays.fill(through, 0);
            Arrays.fill(lost, 0);
            Arrays.fill(deafBits, 0);
            blocks.size = 0;
        }

        void copyFrom(State other) {
            now = other.now;
            room = other.room;
            last = other.last;
            copyRow(other.wants, wants);
            copyRow(other.bannedTill, bannedTill);
            copyRow(other.asked, asked);
            copyRow(other.thought, thought);
            copyRow(other.asks, asks);
            copyRow(other.granted, granted);
            copyRow(other.waits, waits);
            copyRow(other.tokens, tokens);
            copyRow(other.through, through);
            copyRow(other.lost, lost);
            copyRow(other.deafBits, deafBits);
            blocks.copyFrom(other.blocks);
        }

        boolean isDeaf(int t, int step) {
            return step >= 0 && step <= LAST_STEP && (deafBits[step] & 1 << t) != 0;
        }

        /** In how many steps it is deaf that it was not before. */
        int makeDeaf(int t, int from, int to) {
            int more = 0;
            for (int step = Math.max(0, from); step <= to && step <= LAST_STEP; step++) {
                if (!isDeaf(t, step)) {
                    deafBits[step] |= 1 << t;
                    more++;
                }
            }
            return more;
        }

        int allThrough() {
            int all = 0;
            for (int c = 0; c < MOST_CLASSES; c++) {
                all += through[c];
            }
            return all;
        }

        boolean isDrained() {
            int all = blocks.size;
            for (int c = 0; c < MOST_CLASSES; c++) {
                all += waits[c];
            }
            return all == 0;
        }
    }

    /** The steps that a state takes, by what the text told. */
    private static final class Station {
        private final Setup setup;
        private final State state;
        private int left = 0;

        Station(Setup setup, State state) {
            this.setup = setup;
            this.state = state;
        }

        void bring(int c, int letters) {
            int t = setup.owner[c];
            if (isWithin(t, 0, MOST_TERMINALS - 1) && !waitsUpTo(c)) {
                state.wants[t] = 1;
            }
            state.waits[c] += letters;
        }

        private boolean waitsUpTo(int c) {
            for (int other = 0; other < setup.classes; other++) {
                boolean counts = setup.owner[other] == setup.owner[c] && !setup.isAhead(c, other);
                if (counts && state.waits[other] > 0) {
                    return true;
                }
            }
            return false;
        }

        int waitingAt(int t) {
            int all = 0;
            for (int c = 0; c < setup.classes; c++) {
                all += setup.owner[c] == t ? state.waits[c] : 0;
            }
            return all;
        }

        /** The least number of steps, most at most, behind which nothing is left to send. */
        int drainedWithin(int most) {
            for (int n = 0; n <= most; n++) {
                if (state.isDrained()) {
                    return n;
                }
                takeSteps(1);
            }
            return NONE;
        }

        /** How many letters come through in these. */
        int takeSteps(int n) {
            int before = state.allThrough();
            for (int i = 0; i < n; i++) {
                gainTokens();
                askInPlaces();
                left = state.room;
                sendAgain();
                giveGrants();
                state.blocks.dropGone();
                state.now++;
            }
            return state.allThrough() - before;
        }

        private void gainTokens() {
            for (int c = 0; c < setup.classes; c++) {
                state.tokens[c] = Math.min(setup.limit[c], state.tokens[c] + setup.rate[c]);
            }
        }

        private void askInPlaces() {
            for (int t = 0; t < setup.terminals; t++) {
                boolean may = setup.isPlaceToAsk(t, state.now) && state.now >= state.bannedTill[t];
                if (may && state.wants[t] == 1) {
                    state.asked[t] = 1;
                    state.asks[t]++;
                    state.bannedTill[t] = state.now + setup.ban + 1;
                }
            }
        }

        private void sendAgain() {
            for (int t = 0; t < setup.terminals; t++) {
                for (int k = 0; k < state.blocks.size; k++) {
                    if (state.blocks.isDue(k, t, state.now)) {
                        left = Math.max(0, left - state.blocks.content(k));
                        send(k, t);
                    }
                }
            }
        }

        private void giveGrants() {
            int all = setup.terminals;
            int first = state.last == NONE ? 0 : state.last + 1;
            for (int i = 0; i < all && left > 0; i++) {
                int t = (first + i) % all;
                if (t >= 0 && t < MOST_TERMINALS && (state.asked[t] == 1 || state.thought[t] > 0)) {
                    pack(t, takeGrant(t));
                }
            }
        }

        /** How much of what is left is granted. */
        private int takeGrant(int t) {
            int due = state.thought[t] > 0 ? state.thought[t] + REPORT_ROOM : ASKED_GRANT;
            int grant = Math.min(due, left);
            left -= grant;
            state.asked[t] = 0;
            state.granted[t] += grant;
            state.last = t;
            return grant;
        }

        private void pack(int t, int grant) {
            int k = state.blocks.open(t);
            boolean reports = state.wants[t] == 1 && grant >= REPORT_ROOM;
            int free = reports ? grant - REPORT_ROOM : grant;
            free = packLetters(t, k, free, true);
            free = packLetters(t, k, free, false);
            if (reports || free >= REPORT_ROOM) {
                state.blocks.putReport(k, waitingAt(t));
                state.wants[t] = 0;
            }
            // An empty one was opened as gone, and is dropped with those.
            if (state.blocks.content(k) > 0) {
                send(k, t);
            }
        }

        /** What is free still, when each class, the one ahead of all first, has put in what it can. */
        private int packLetters(int t, int k, int free, boolean byTokens) {
            int rest = free;
            for (int priority = 0; priority <= MOST_PRIORITY; priority++) {
                for (int c = 0; c < setup.classes; c++) {
                    if (setup.owner[c] != t || setup.priority[c] != priority) {
                        continue;
                    }
                    int many = Math.min(state.waits[c], rest);
                    if (byTokens) {
                        many = Math.min(many, state.tokens[c]);
                        state.tokens[c] -= many;
                    }
                    state.waits[c] -= many;
                    state.blocks.putLetters(k, c, many);
                    rest -= many;
                }
            }
            return rest;
        }

        private void send(int k, int t) {
            Blocks blocks = state.blocks;
            int sendings = blocks.countSending(k);
            if (!state.isDeaf(t, state.now)) {
                int says = blocks.reportOf(k);
                int less = Math.max(0, state.thought[t] - blocks.allLetters(k));
                state.thought[t] = says == NONE ? less : says;
                blocks.addLettersTo(state.through, k);
                blocks.markGone(k);
            } else if (sendings < setup.tries) {
                blocks.putDue(k, state.now + setup.back);
            } else {
                state.wants[t] = 1;
                blocks.addLettersTo(state.lost, k);
                blocks.markGone(k);
            }
        }
    }

    /** The states ahead of the latest calls that can be undone: a ring, so that the oldest is lost first. */
    private static final class History {
        int known = 0;
        private int newest = 0;
        private final State[] before = new State[MOST_UNDONE];

        History() {
            for (int i = 0; i < MOST_UNDONE; i++) {
                before[i] = new State();
            }
        }

        void remember(State state) {
            newest = (newest + 1) % MOST_UNDONE;
            State row = rowAt(newest);
            if (row != null) {
                row.copyFrom(state);
                known = Math.min(MOST_UNDONE, known + 1);
            }
        }

        boolean takeBack(State state) {
            State row = rowAt(newest);
            if (known <= 0 || row == null) {
                return false;
            }
            state.copyFrom(row);
            newest = (newest + MOST_UNDONE - 1) % MOST_UNDONE;
            known--;
            return true;
        }

        private State rowAt(int at) {
            return isWithin(at, 0, MOST_UNDONE - 1) ? before[at] : null;
        }
    }

    private static final class Image {
        boolean there = false;
        final State state = new State();

        void take(State now) {
            state.copyFrom(now);
            there = true;
        }
    }

    private static void copyRow(int[] from, int[] to) {
        System.arraycopy(from, 0, to, 0, Math.min(from.length, to.length));
    }
}
