import java.util.Arrays;
import java.util.NoSuchElementException;

/**
 * The box at a junction: a layout told as a text, ticks in which trains run over it, and what can
 * be worked out of both. The document's numbered promises say what each public method answers.
 */
public final class LeverFrame {
    public static final int NONE = -1;

    // The sorts of a layout, numbered as count() asks for them; a sort's line begins with the word
    // of the same number.
    private static final int SECTIONS = 0;
    private static final int POINTS = 1;
    private static final int TRACKS = 2;
    private static final int SIGNALS = 3;
    private static final int ROUTES = 4;
    private static final int LOCKS = 5;
    private static final int TRAINS = 6;
    private static final int HOLD = 7;
    private static final int SORTS = 8;

    private static final int MOST_SECTIONS = 12;
    private static final int MOST_POINTS = 6;
    private static final int MOST_TRACKS = 16;
    private static final int MOST_SIGNALS = 8;
    private static final int MOST_ROUTES = 10;
    private static final int MOST_OVERS = 6;
    private static final int MOST_TRAINS = 5;
    private static final int MOST_LINES = 40;
    private static final int MOST_ONES = 20;
    private static final int MOST_WITHIN = 8;
    private static final int MOST_KEPT = 8;
    private static final int MOST_SHOWN = 6;
    private static final int MOST_TICKS = 1000;
    private static final int TICKS_ASKED = 60;
    private static final int TICKS_AHEAD = 300;
    private static final int TICKS_OF_ODDS = 40;
    private static final int MOST_SEEDS = 30;
    private static final int LONGEST = 30;
    private static final int HOLD_UNTOLD = 3;
    private static final int IMAGES = 2;

    private static final int TAPE_BYTES = 1460;
    private static final int LAYOUT_BYTES = 1400;
    private static final int BOOK_BYTES = 400;
    private static final int SENTENCE_BYTES = 200;

    private static final int FREE = 0;
    private static final int SET = 1;
    private static final int USED = 2;
    private static final int HELD = 3;

    private static final int DOWN = 0;

    // What a pull of points is told by, and what the lesser route of a pair counts.
    private static final int SIXTEEN = 16;

    // The places of the words in WORDS; those of the sorts' lines are the sorts themselves.
    private static final int WORD_OVER = 8;
    private static final int WORD_NORMAL = 9;
    private static final int WORD_DOWN = 11;
    private static final int WORD_SET = 13;
    private static final int WORD_BACK = 14;
    private static final int WORD_THROW = 15;
    private static final int WORD_FAIL = 16;
    private static final int WORD_CLEAR = 17;
    private static final int WORD_MEND = 19;
    private static final int WORD_TICK = 20;
    private static final int WORD_OR = 21;
    private static final int WORD_AND = 22;
    private static final int WORD_NOT = 23;
    private static final int WORD_OUT = 24;
    private static final int WORD_CRASHED = 25;
    private static final int WORD_WAITING = 26;
    private static final int WORD_IN = 27;
    private static final int WORD_USING = 28;
    private static final int WORD_TICKS = 29;
    private static final int WORD_WAITED = 30;
    private static final int WORD_NUMBER = 31;
    private static final int WORD_COUNT = 32;
    private static final String WORDS = "section points track signal route lock train hold over normal reverse down up set back throw fail clear full mend tick or and not out crashed waiting in using ticks waited number ";

    private final Text tape = new Text();
    private final Plan plan = new Plan();
    private final PlanReader reader = new PlanReader();
    private final State state = new State(plan);
    private final State trial = new State(plan);
    private final History history = new History(plan);
    private final Book script = new Book();
    private final Sentence saying = new Sentence();
    private final Sentence draft = new Sentence();
    private final Image[] images = new Image[IMAGES];
    private final Counsel counsel = new Counsel();
    private final Diagnosis diagnosis = new Diagnosis();
    private final Tag label = new Tag();
    private int latestFault = 0;
    private int latestTogether = NONE;

    public LeverFrame() {
        for (int k = 0; k < IMAGES; k++) {
            images[k] = new Image(plan);
        }
    }

    public int feed(int a, int b, int c, int d, int e) {
        if (tape.size + 20 > TAPE_BYTES) {
            return NONE;
        }
        tape.addNumber(a);
        tape.addNumber(b);
        tape.addNumber(c);
        tape.addNumber(d);
        tape.addNumber(e);
        return tape.size;
    }

    public boolean end(int n) {
        if (n < 0 || n > tape.size) {
            return false;
        }
        tape.size = n;
        return true;
    }

    public int layout() {
        boolean good = reader.readPlan(tape);
        latestFault = tape.fault;
        tape.size = 0;
        if (!good) {
            return -1 - tape.faultPlace;
        }
        plan.copyFrom(reader.draft);
        state.start();
        saying.known = false;
        history.size = 0;
        return reader.lines;
    }

    public int fault() {
        return latestFault;
    }

    public int section(int s, int what) {
        if (!plan.has(SECTIONS, s)) {
            return NONE;
        }
        switch (what) {
            case 0: return plan.lengths[s];
            case 1: return state.leastTrainIn(s, NONE);
            case 2: return (state.showing() >> s) & 1;
            case 3: return state.failing(s);
            case 4: return plan.routesWith(s);
            case 5: return plan.pointsWithin(s);
            default: return NONE;
        }
    }

    public int points(int p, int what) {
        if (!plan.has(POINTS, p)) {
            return NONE;
        }
        switch (what) {
            case 0: return plan.pointsIn[p];
            case 1: return (state.reverse >> p) & 1;
            case 2: return plan.routesNeeding(p, 0);
            case 3: return plan.routesNeeding(p, 1);
            default: return NONE;
        }
    }

    public int signal(int g, int what) {
        if (!plan.has(SIGNALS, g)) {
            return NONE;
        }
        switch (what) {
            case 0: return plan.signalIn[g];
            case 1: return plan.signalWay[g];
            case 2: return state.setRouteOf(g) == NONE ? 0 : 1;
            case 3: return plan.routesOf(g);
            default: return NONE;
        }
    }

    public int route(int r, int what) {
        if (!plan.has(ROUTES, r)) {
            return NONE;
        }
        switch (what) {
            case 0: return plan.routeSignal[r];
            case 1: return state.how[r];
            case 2: return plan.routeSize[r];
            case 3: return plan.locked[r];
            case 4: return plan.clashes[r];
            case 5: return plan.needsNormal[r];
            case 6: return plan.needsReverse[r];
            case 7: return state.how[r] == HELD ? state.held[r] : 0;
            case 8: return state.how[r] == USED ? state.user[r] : NONE;
            default: return NONE;
        }
    }

    public int over(int r, int k) {
        if (!plan.has(ROUTES, r) || k < 0 || k >= plan.routeSize[r]) {
            return NONE;
        }
        return plan.sectionOf(r, k);
    }

    public int train(int t, int what) throws NoSuchElementException {
        if (!plan.has(TRAINS, t)) {
            throw new NoSuchElementException("no such train");
        }
        switch (what) {
            case 0: return state.at[t];
            case 1: return plan.trainWay[t];
            case 2: return state.stay[t];
            case 3: return (state.crashed >> t) & 1;
            case 4: return (state.waits >> t) & 1;
            case 5: return state.waited[t];
            case 6: return state.routesUsedBy(t);
            default: throw new NoSuchElementException("no such question");
        }
    }

    public int now(int what) {
        switch (what) {
            case 0: return state.tick;
            case 1: return state.showing();
            case 2: return state.notFree();
            case 3: return state.reverse;
            case 4: return state.trainsOut();
            case 5: return state.crashed;
            case 6: return state.meets;
            default: return NONE;
        }
    }

    public int set(int r) {
        return act(WORD_SET, r, 0);
    }

    public int back(int r) {
        return act(WORD_BACK, r, 0);
    }

    public int turn(int p) {
        return act(WORD_THROW, p, 0);
    }

    public int fail(int s, int full) {
        if (full != 0 && full != 1) {
            return NONE;
        }
        return act(WORD_FAIL, s, full);
    }

    public int mend(int s) {
        return act(WORD_MEND, s, 0);
    }

    public int ticks(int n) {
        if (n < 1 || n > TICKS_ASKED) {
            return NONE;
        }
        history.note(state);
        int passed = state.passTicks(n);
        if (passed > 0) {
            history.keepNoted();
        }
        return passed;
    }

    public int undo() {
        return history.takeBack(state);
    }

    public int lacking() {
        return plan.countLacking();
    }

    public int lacks(int k) {
        return plan.lackingAt(k);
    }

    public int spare() {
        return plan.countSpare();
    }

    public int pulls(int r) {
        return counsel.workOutPulls(plan, state, r);
    }

    public int pullsAt(int k) {
        return counsel.pullAt(k);
    }

    public int together() {
        latestTogether = plan.mostTogether();
        return Integer.bitCount(latestTogether);
    }

    public int those() {
        return latestTogether;
    }

    public int rounds() {
        return counsel.countRounds(plan);
    }

    public int path(int t, int s) {
        return counsel.workOutPath(plan, state, t, s);
    }

    public int pathAt(int k) {
        return counsel.stepAt(k);
    }

    public int comes(int t, int s) {
        if (!plan.has(TRAINS, t) || !plan.has(SECTIONS, s)) {
            return NONE;
        }
        trial.copyFrom(state);
        for (int gone = 0; gone <= TICKS_AHEAD; gone++) {
            if (trial.at[t] == s) {
                return gone;
            }
            trial.passOne();
        }
        return NONE;
    }

    public int meet() {
        trial.copyFrom(state);
        for (int gone = 1; gone <= TICKS_AHEAD; gone++) {
            trial.passOne();
            if (trial.crashed != state.crashed) {
                return gone;
            }
        }
        return NONE;
    }

    public int fits() {
        int found = diagnosis.workOut(tape, plan, state.occupied());
        tape.size = 0;
        return found;
    }

    public int fitsAt(int k) {
        return diagnosis.failureAt(k);
    }

    public int ask() {
        return diagnosis.next;
    }

    public int mean(int what) throws NoSuchElementException {
        int trains = plan.count[TRAINS];
        if (trains < 1 || what < 0 || what > 1) {
            throw new NoSuchElementException("no such number");
        }
        int sum = state.waitedByAll();
        int common = greatestCommon(sum, trains);
        if (common < 1) {
            return NONE;
        }
        return what == 0 ? sum / common : trains / common;
    }

    public int tag(int t) {
        if (!plan.has(TRAINS, t)) {
            return NONE;
        }
        label.write(plan, state, t);
        return label.size;
    }

    public int byteAt(int i) {
        return label.at(i);
    }

    public int drawn(int n, int seed) {
        if (n < 1 || n > TICKS_ASKED) {
            return NONE;
        }
        history.note(state);
        int passed = state.passDrawn(n, seed);
        if (passed > 0) {
            history.keepNoted();
        }
        return passed;
    }

    public int odds(int n, int seed) {
        if (n < 1 || n > MOST_SEEDS) {
            return NONE;
        }
        int hits = 0;
        for (int i = 0; i < n; i++) {
            trial.copyFrom(state);
            trial.passDrawn(TICKS_OF_ODDS, seed + i);
            if (trial.meets > state.meets) {
                hits++;
            }
        }
        return hits;
    }

    public int book(int lives) {
        if (lives != 0 && lives != 1) {
            return -1000;
        }
        boolean good = script.readLines(tape, plan);
        latestFault = tape.fault;
        tape.size = 0;
        if (!good) {
            return -2 - tape.faultPlace;
        }
        trial.copyFrom(state);
        int wrong = script.judge(trial);
        if (lives == 1 && script.goodLines > 0) {
            history.note(state);
            history.keepNoted();
            state.copyFrom(trial);
        }
        return wrong;
    }

    public int told(int what) {
        return script.tellJudgement(what);
    }

    public int sentence() {
        boolean good = draft.readOnes(tape, plan);
        latestFault = tape.fault;
        tape.size = 0;
        if (!good) {
            return -1 - tape.faultPlace;
        }
        saying.copyFrom(draft);
        return saying.ones;
    }

    public int said(int k) {
        if (!saying.known || k < NONE) {
            return NONE;
        }
        int holds = saying.trainsFitting(plan, state);
        if (k == NONE) {
            return Integer.bitCount(holds);
        }
        int seen = 0;
        for (int t = 0; t < plan.count[TRAINS]; t++) {
            if (((holds >> t) & 1) == 1) {
                if (seen == k) {
                    return t;
                }
                seen++;
            }
        }
        return NONE;
    }

    public boolean image(int k) {
        if (k < 0 || k >= IMAGES) {
            return false;
        }
        images[k].keep(plan, state, saying);
        return true;
    }

    public boolean restore(int k) {
        if (k < 0 || k >= IMAGES || !images[k].kept) {
            return false;
        }
        images[k].giveBack(plan, state, saying);
        history.size = 0;
        return true;
    }

    public int count(int what) {
        if (what == SORTS) {
            return tape.size;
        }
        return what >= 0 && what < SORTS ? plan.count[what] : NONE;
    }

    /** One act of the signalman that undo() can take back: 0, why not, or NONE for no such one. */
    private int act(int word, int which, int full) {
        if (!plan.has(sortOfAct(word), which)) {
            return NONE;
        }
        history.note(state);
        int why = state.perform(word, which, full);
        if (why == 0) {
            history.keepNoted();
        }
        return why;
    }

    /** On what an act of that word works. */
    private static int sortOfAct(int word) {
        if (word == WORD_SET || word == WORD_BACK) {
            return ROUTES;
        }
        return word == WORD_THROW ? POINTS : SECTIONS;
    }

    private static int greatestCommon(int a, int b) {
        int x = a;
        int y = b;
        // Euclid's remainders at least halve every second step, so 64 steps are enough for any int.
        for (int step = 0; step < 64 && y != 0; step++) {
            int rest = x % y;
            x = y;
            y = rest;
        }
        return x;
    }

    private static void copyRow(int[] from, int[] to) {
        System.arraycopy(from, 0, to, 0, Math.min(from.length, to.length));
    }

    /** The tape, and the tokens read off it one by one, with the first fault that was met. */
    private static final class Text {
        static final int END = 0;
        static final int WORD = 1;
        static final int NUMBER = 2;
        static final int SIGN = 3;
        static final int NO_TOKEN = 4;

        final int[] bytes = new int[TAPE_BYTES];
        int size = 0;
        int most = 0;
        int reached = 0;

        int kind = END;
        int place = 0;
        // Of a NUMBER its value, of a SIGN its byte.
        int value = 0;
        // Of a WORD its letters, five bits each, and which of WORDS it is (NONE: it can be a NAME).
        long letters = 0;
        int key = NONE;

        int fault = 0;
        int faultPlace = 0;

        final long[] keys = codesOfWords();

        private static long[] codesOfWords() {
            long[] codes = new long[WORD_COUNT];
            long code = 0;
            int filled = 0;
            for (int i = 0; i < WORDS.length() && filled < WORD_COUNT; i++) {
                char c = WORDS.charAt(i);
                if (c == ' ') {
                    codes[filled] = code;
                    filled++;
                    code = 0;
                } else {
                    code = code * 32 + (c - 'a' + 1);
                }
            }
            return codes;
        }

        void addNumber(int number) {
            for (int shift = 24; shift >= 0; shift -= 8) {
                if (size < bytes.length) {
                    bytes[size] = (number >>> shift) & 255;
                    size++;
                }
            }
        }

        void begin(int mostBytes) {
            most = mostBytes;
            reached = 0;
            fault = 0;
            faultPlace = 0;
        }

        void next() {
            key = NONE;
            while (reached < size && isBlank(bytes[reached])) {
                reached++;
            }
            if (reached >= size || reached >= most) {
                // Nothing may stand behind the most bytes, so there even the end can't come.
                kind = size > most ? NO_TOKEN : END;
                place = Math.min(size, most);
                return;
            }
            place = reached;
            if (isLetter(bytes[reached]) || isDigit(bytes[reached])) {
                readRun();
            } else {
                kind = SIGN;
                value = bytes[reached];
                reached++;
            }
        }

        private void readRun() {
            int letterCount = 0;
            int digitCount = 0;
            letters = 0;
            value = 0;
            for (; reached < size && (isLetter(bytes[reached]) || isDigit(bytes[reached])); reached++) {
                if (isLetter(bytes[reached])) {
                    letterCount++;
                    letters = letters * 32 + (bytes[reached] - 'a' + 1);
                } else {
                    digitCount++;
                    value = value * 10 + (bytes[reached] - '0');
                }
            }
            if (digitCount == 0 && letterCount <= 7) {
                kind = WORD;
            } else {
                kind = letterCount == 0 && digitCount <= 3 ? NUMBER : NO_TOKEN;
            }
            for (int k = 0; k < keys.length && kind == WORD; k++) {
                if (keys[k] == letters) {
                    key = k;
                }
            }
        }

        private static boolean isBlank(int c) {
            return c == ' ' || c == '\n';
        }

        private static boolean isLetter(int c) {
            return c >= 'a' && c <= 'z';
        }

        private static boolean isDigit(int c) {
            return c >= '0' && c <= '9';
        }

        /** The fault at the token that was read last; answers false so that a reader can hand it on. */
        boolean wrong(int kindOfFault) {
            fault = kindOfFault;
            faultPlace = place;
            return false;
        }

        boolean isSign(char sign) {
            return kind == SIGN && value == sign;
        }

        /** The token read last is that sign, or else a fault. */
        boolean mustBe(char sign) {
            return isSign(sign) || wrong(1);
        }

        /** The number of a thing of that sort whose NAME was read last; NONE, and a fault, else. */
        int named(Plan plan, int sort) {
            if (kind != WORD || key != NONE) {
                wrong(1);
                return NONE;
            }
            int found = plan.find(sort, letters);
            if (found == NONE) {
                wrong(3);
            }
            return found;
        }

        int nextNamed(Plan plan, int sort) {
            next();
            return named(plan, sort);
        }

        /** The next token is a NAME that nothing in the plan has yet, or else a fault. */
        boolean nextNewName(Plan plan) {
            next();
            if (kind != WORD || key != NONE) {
                return wrong(1);
            }
            return !plan.knows(letters) || wrong(3);
        }

        /** The next NUMBER, which must lie between the two; NONE, and a fault, else. */
        int nextNumber(int least, int greatest) {
            next();
            if (kind != NUMBER) {
                wrong(1);
                return NONE;
            }
            if (value < least || value > greatest) {
                wrong(2);
                return NONE;
            }
            return value;
        }

        /** 0 if the next token is that word, 1 if it is the one behind it; NONE, and a fault, else. */
        int nextOfTwo(int word) {
            next();
            if (kind != WORD || (key != word && key != word + 1)) {
                wrong(1);
                return NONE;
            }
            return key - word;
        }
    }

    /** What a LAYOUT tells, and what is worked out of it without any train. */
    private static final class Plan {
        final int[] count = new int[SORTS];
        // Twelve places for each sort.
        final long[] names = new long[SORTS * MOST_SECTIONS];
        final int[] lengths = new int[MOST_SECTIONS];
        final int[] pointsIn = new int[MOST_POINTS];
        final int[] trackFrom = new int[MOST_TRACKS];
        final int[] trackTo = new int[MOST_TRACKS];
        final int[] trackPoints = new int[MOST_TRACKS];
        final int[] trackLie = new int[MOST_TRACKS];
        final int[] signalIn = new int[MOST_SIGNALS];
        final int[] signalWay = new int[MOST_SIGNALS];
        final int[] routeSignal = new int[MOST_ROUTES];
        final int[] routeSize = new int[MOST_ROUTES];
        final int[] routeOver = new int[MOST_ROUTES * MOST_OVERS];
        // Of each route, as bits: its sections, the points it needs either way, routes with it.
        final int[] sections = new int[MOST_ROUTES];
        final int[] needsNormal = new int[MOST_ROUTES];
        final int[] needsReverse = new int[MOST_ROUTES];
        final int[] locked = new int[MOST_ROUTES];
        final int[] clashes = new int[MOST_ROUTES];
        final int[] trainIn = new int[MOST_TRAINS];
        final int[] trainWay = new int[MOST_TRAINS];

        Plan() {
            count[HOLD] = HOLD_UNTOLD;
        }

        void empty() {
            Arrays.fill(count, 0);
            count[HOLD] = HOLD_UNTOLD;
        }

        void copyFrom(Plan other) {
            copyRow(other.count, count);
            System.arraycopy(other.names, 0, names, 0, names.length);
            copyRow(other.lengths, lengths);
            copyRow(other.pointsIn, pointsIn);
            copyRow(other.trackFrom, trackFrom);
            copyRow(other.trackTo, trackTo);
            copyRow(other.trackPoints, trackPoints);
            copyRow(other.trackLie, trackLie);
            copyRow(other.signalIn, signalIn);
            copyRow(other.signalWay, signalWay);
            copyRow(other.routeSignal, routeSignal);
            copyRow(other.routeSize, routeSize);
            copyRow(other.routeOver, routeOver);
            copyRow(other.sections, sections);
            copyRow(other.needsNormal, needsNormal);
            copyRow(other.needsReverse, needsReverse);
            copyRow(other.locked, locked);
            copyRow(other.clashes, clashes);
            copyRow(other.trainIn, trainIn);
            copyRow(other.trainWay, trainWay);
        }

        boolean has(int sort, int i) {
            return i >= 0 && i < count[sort];
        }

        long nameOf(int sort, int i) {
            return names[sort * MOST_SECTIONS + i];
        }

        /** One more of a sort for which there is room: its number. */
        int addOne(int sort, long name) {
            int i = count[sort];
            names[sort * MOST_SECTIONS + i] = name;
            count[sort] = i + 1;
            return i;
        }

        int find(int sort, long name) {
            for (int i = 0; i < count[sort] && i < MOST_SECTIONS; i++) {
                if (names[sort * MOST_SECTIONS + i] == name) {
                    return i;
                }
            }
            return NONE;
        }

        boolean knows(long name) {
            return find(SECTIONS, name) != NONE || find(POINTS, name) != NONE
                    || find(SIGNALS, name) != NONE || find(ROUTES, name) != NONE
                    || find(TRAINS, name) != NONE;
        }

        /** The track between two sections whichever way it was told; there is one at most. */
        int trackBetween(int a, int b) {
            for (int k = 0; k < count[TRACKS]; k++) {
                if ((trackFrom[k] == a && trackTo[k] == b) || (trackFrom[k] == b && trackTo[k] == a)) {
                    return k;
                }
            }
            return NONE;
        }

        /** Where that track leads those who go that way from a section; NONE: not from there. */
        int leadsTo(int track, int from, int way) {
            int start = way == DOWN ? trackFrom[track] : trackTo[track];
            int goal = way == DOWN ? trackTo[track] : trackFrom[track];
            return start == from ? goal : NONE;
        }

        int signalAt(int section, int way) {
            for (int g = 0; g < count[SIGNALS]; g++) {
                if (signalIn[g] == section && signalWay[g] == way) {
                    return g;
                }
            }
            return NONE;
        }

        int sectionOf(int route, int k) {
            return routeOver[route * MOST_OVERS + k];
        }

        /** Where a route ends; its signal's section while it has none of its own. */
        int endOf(int route) {
            int size = routeSize[route];
            return size == 0 ? signalIn[routeSignal[route]] : sectionOf(route, size - 1);
        }

        int routesOf(int signal) {
            int bits = 0;
            for (int r = 0; r < count[ROUTES]; r++) {
                if (routeSignal[r] == signal) {
                    bits |= 1 << r;
                }
            }
            return bits;
        }

        int routesWith(int section) {
            int bits = 0;
            for (int r = 0; r < count[ROUTES]; r++) {
                bits |= ((sections[r] >> section) & 1) << r;
            }
            return bits;
        }

        int routesNeeding(int points, int lie) {
            int bits = 0;
            for (int r = 0; r < count[ROUTES]; r++) {
                int needs = lie == 0 ? needsNormal[r] : needsReverse[r];
                bits |= ((needs >> points) & 1) << r;
            }
            return bits;
        }

        int pointsWithin(int section) {
            int bits = 0;
            for (int p = 0; p < count[POINTS]; p++) {
                if (pointsIn[p] == section) {
                    bits |= 1 << p;
                }
            }
            return bits;
        }

        /** Which routes conflict by the tracks; once, when all lines are read. */
        void workOutClashes() {
            for (int r = 0; r < count[ROUTES]; r++) {
                clashes[r] = 0;
                for (int q = 0; q < count[ROUTES]; q++) {
                    if (q != r && conflict(r, q)) {
                        clashes[r] |= 1 << q;
                    }
                }
            }
        }

        private boolean conflict(int r, int q) {
            return routeSignal[r] == routeSignal[q]
                    || (sections[r] & sections[q]) != 0
                    || (needsNormal[r] & needsReverse[q]) != 0
                    || (needsReverse[r] & needsNormal[q]) != 0;
        }

        /** Routes of greater number that conflict with r though the table does not say so. */
        private int lackingBehind(int r) {
            int behind = -1 << (r + 1);
            return clashes[r] & ~locked[r] & ~routesOf(routeSignal[r]) & behind;
        }

        int countLacking() {
            int pairs = 0;
            for (int r = 0; r < count[ROUTES]; r++) {
                pairs += Integer.bitCount(lackingBehind(r));
            }
            return pairs;
        }

        int lackingAt(int k) {
            int seen = 0;
            for (int r = 0; r < count[ROUTES]; r++) {
                int pairs = lackingBehind(r);
                for (int q = r + 1; q < count[ROUTES]; q++) {
                    if (((pairs >> q) & 1) == 1) {
                        if (seen == k) {
                            return SIXTEEN * r + q;
                        }
                        seen++;
                    }
                }
            }
            return NONE;
        }

        int countSpare() {
            int both = 0;
            for (int r = 0; r < count[ROUTES]; r++) {
                both += Integer.bitCount(locked[r] & ~clashes[r]);
            }
            return both / 2;
        }

        /** The greatest set of routes of which no two conflict, of like ones the least as bits. */
        int mostTogether() {
            int best = 0;
            for (int set = 0; set < 1 << count[ROUTES]; set++) {
                if (Integer.bitCount(set) > Integer.bitCount(best) && isPeaceful(set)) {
                    best = set;
                }
            }
            return best;
        }

        private boolean isPeaceful(int set) {
            for (int r = 0; r < count[ROUTES]; r++) {
                if (((set >> r) & 1) == 1 && (clashes[r] & set) != 0) {
                    return false;
                }
            }
            return true;
        }
    }

    /** Reads a LAYOUT off the tape into a draft, so that a fault leaves the plan as it was. */
    private static final class PlanReader {
        final Plan draft = new Plan();
        int lines = 0;
        boolean holdTold = false;

        boolean readPlan(Text text) {
            text.begin(LAYOUT_BYTES);
            draft.empty();
            lines = 0;
            holdTold = false;
            text.next();
            while (text.kind != Text.END && lines <= LAYOUT_BYTES) {
                if (!readLine(text) || !text.mustBe(';')) {
                    return false;
                }
                lines++;
                text.next();
            }
            draft.workOutClashes();
            return true;
        }

        /** Reads one line from its first word, read already, to the token that should be its ';'. */
        private boolean readLine(Text text) {
            switch (text.key) {
                case SECTIONS: return readSection(text);
                case POINTS: return readPoints(text);
                case TRACKS: return readTrack(text);
                case SIGNALS: return readSignal(text);
                case ROUTES: return readRoute(text);
                case LOCKS: return readLock(text);
                case TRAINS: return readTrain(text);
                case HOLD: return readHold(text);
                case WORD_OVER: return readOver(text);
                default: return text.wrong(1);
            }
        }

        private boolean hasRoom(Text text, int sort, int most) {
            return draft.count[sort] < most || text.wrong(4);
        }

        private static boolean goOn(Text text) {
            text.next();
            return true;
        }

        private boolean readSection(Text text) {
            if (!hasRoom(text, SECTIONS, MOST_SECTIONS) || !text.nextNewName(draft)) {
                return false;
            }
            long name = text.letters;
            int length = text.nextNumber(1, LONGEST);
            if (length == NONE) {
                return false;
            }
            draft.lengths[draft.addOne(SECTIONS, name)] = length;
            return goOn(text);
        }

        private boolean readPoints(Text text) {
            if (!hasRoom(text, POINTS, MOST_POINTS) || !text.nextNewName(draft)) {
                return false;
            }
            long name = text.letters;
            int section = text.nextNamed(draft, SECTIONS);
            if (section == NONE) {
                return false;
            }
            draft.pointsIn[draft.addOne(POINTS, name)] = section;
            return goOn(text);
        }

        private boolean readTrack(Text text) {
            if (!hasRoom(text, TRACKS, MOST_TRACKS)) {
                return false;
            }
            int from = text.nextNamed(draft, SECTIONS);
            int to = from == NONE ? NONE : text.nextNamed(draft, SECTIONS);
            if (to == NONE) {
                return false;
            }
            if (from == to || draft.trackBetween(from, to) != NONE) {
                return text.wrong(3);
            }
            int points = NONE;
            int lie = 0;
            text.next();
            if (!text.isSign(';')) {
                points = readPointsBy(text, from, to);
                lie = points == NONE ? NONE : text.nextOfTwo(WORD_NORMAL);
                if (lie == NONE) {
                    return false;
                }
                text.next();
            }
            addTrack(from, to, points, lie);
            return true;
        }

        /** The points named by the token read last, which must lie in one of the two sections. */
        private int readPointsBy(Text text, int from, int to) {
            int points = text.named(draft, POINTS);
            if (points == NONE) {
                return NONE;
            }
            int section = draft.pointsIn[points];
            if (section != from && section != to) {
                text.wrong(3);
                return NONE;
            }
            return points;
        }

        private void addTrack(int from, int to, int points, int lie) {
            int k = draft.count[TRACKS];
            draft.trackFrom[k] = from;
            draft.trackTo[k] = to;
            draft.trackPoints[k] = points;
            draft.trackLie[k] = lie;
            draft.count[TRACKS] = k + 1;
        }

        private boolean readSignal(Text text) {
            if (!hasRoom(text, SIGNALS, MOST_SIGNALS) || !text.nextNewName(draft)) {
                return false;
            }
            long name = text.letters;
            int section = text.nextNamed(draft, SECTIONS);
            int way = section == NONE ? NONE : text.nextOfTwo(WORD_DOWN);
            if (way == NONE) {
                return false;
            }
            if (draft.signalAt(section, way) != NONE) {
                return text.wrong(3);
            }
            int g = draft.addOne(SIGNALS, name);
            draft.signalIn[g] = section;
            draft.signalWay[g] = way;
            return goOn(text);
        }

        private boolean readRoute(Text text) {
            if (!hasRoom(text, ROUTES, MOST_ROUTES) || !text.nextNewName(draft)) {
                return false;
            }
            long name = text.letters;
            int signal = text.nextNamed(draft, SIGNALS);
            if (signal == NONE) {
                return false;
            }
            int r = draft.addOne(ROUTES, name);
            draft.routeSignal[r] = signal;
            draft.routeSize[r] = 0;
            draft.sections[r] = 0;
            draft.needsNormal[r] = 0;
            draft.needsReverse[r] = 0;
            draft.locked[r] = 0;
            return goOn(text);
        }

        private boolean readOver(Text text) {
            int r = text.nextNamed(draft, ROUTES);
            if (r == NONE) {
                return false;
            }
            if (draft.routeSize[r] >= MOST_OVERS) {
                return text.wrong(4);
            }
            int section = text.nextNamed(draft, SECTIONS);
            if (section == NONE) {
                return false;
            }
            if (!canGoOver(r, section)) {
                return text.wrong(3);
            }
            addOver(r, section);
            return goOn(text);
        }

        private boolean canGoOver(int r, int section) {
            int signal = draft.routeSignal[r];
            int from = draft.endOf(r);
            int track = draft.trackBetween(from, section);
            if (track == NONE || draft.leadsTo(track, from, draft.signalWay[signal]) != section) {
                return false;
            }
            if (((draft.sections[r] >> section) & 1) == 1 || draft.signalIn[signal] == section) {
                return false;
            }
            int points = draft.trackPoints[track];
            int otherWay = draft.trackLie[track] == 0 ? draft.needsReverse[r] : draft.needsNormal[r];
            return points == NONE || ((otherWay >> points) & 1) == 0;
        }

        private void addOver(int r, int section) {
            int track = draft.trackBetween(draft.endOf(r), section);
            int points = track == NONE ? NONE : draft.trackPoints[track];
            if (points != NONE) {
                if (draft.trackLie[track] == 0) {
                    draft.needsNormal[r] |= 1 << points;
                } else {
                    draft.needsReverse[r] |= 1 << points;
                }
            }
            draft.routeOver[r * MOST_OVERS + draft.routeSize[r]] = section;
            draft.routeSize[r]++;
            draft.sections[r] |= 1 << section;
        }

        private boolean readLock(Text text) {
            int one = text.nextNamed(draft, ROUTES);
            int other = one == NONE ? NONE : text.nextNamed(draft, ROUTES);
            if (other == NONE) {
                return false;
            }
            if (one == other || ((draft.locked[one] >> other) & 1) == 1) {
                return text.wrong(3);
            }
            draft.locked[one] |= 1 << other;
            draft.locked[other] |= 1 << one;
            draft.count[LOCKS]++;
            return goOn(text);
        }

        private boolean readTrain(Text text) {
            if (!hasRoom(text, TRAINS, MOST_TRAINS) || !text.nextNewName(draft)) {
                return false;
            }
            long name = text.letters;
            int section = text.nextNamed(draft, SECTIONS);
            if (section == NONE) {
                return false;
            }
            for (int t = 0; t < draft.count[TRAINS]; t++) {
                if (draft.trainIn[t] == section) {
                    return text.wrong(3);
                }
            }
            int way = text.nextOfTwo(WORD_DOWN);
            if (way == NONE) {
                return false;
            }
            int t = draft.addOne(TRAINS, name);
            draft.trainIn[t] = section;
            draft.trainWay[t] = way;
            return goOn(text);
        }

        private boolean readHold(Text text) {
            if (holdTold) {
                return text.wrong(3);
            }
            int hold = text.nextNumber(1, LONGEST);
            if (hold == NONE) {
                return false;
            }
            holdTold = true;
            draft.count[HOLD] = hold;
            return goOn(text);
        }
    }

    /** All that is so at a tick; what it means is told by the plan. */
    private static final class State {
        // Where a train goes that can not go on; NONE is out.
        static final int STAYS = -2;

        final Plan plan;
        int tick = 0;
        int meets = 0;
        // As bits: points that lie reverse, sections that fail, trains.
        int reverse = 0;
        int failsClear = 0;
        int failsFull = 0;
        int crashed = 0;
        int waits = 0;
        // Of routes.
        final int[] how = new int[MOST_ROUTES];
        final int[] held = new int[MOST_ROUTES];
        final int[] user = new int[MOST_ROUTES];
        // Of trains.
        final int[] at = new int[MOST_TRAINS];
        final int[] stay = new int[MOST_TRAINS];
        final int[] waited = new int[MOST_TRAINS];

        State(Plan ofPlan) {
            plan = ofPlan;
        }

        /** As a new layout begins. */
        void start() {
            tick = 0;
            meets = 0;
            reverse = 0;
            failsClear = 0;
            failsFull = 0;
            crashed = 0;
            waits = 0;
            Arrays.fill(how, FREE);
            Arrays.fill(held, 0);
            Arrays.fill(user, NONE);
            copyRow(plan.trainIn, at);
            Arrays.fill(stay, 0);
            Arrays.fill(waited, 0);
        }

        void copyFrom(State other) {
            tick = other.tick;
            meets = other.meets;
            reverse = other.reverse;
            failsClear = other.failsClear;
            failsFull = other.failsFull;
            crashed = other.crashed;
            waits = other.waits;
            copyRow(other.how, how);
            copyRow(other.held, held);
            copyRow(other.user, user);
            copyRow(other.at, at);
            copyRow(other.stay, stay);
            copyRow(other.waited, waited);
        }

        int occupied() {
            int bits = 0;
            for (int t = 0; t < plan.count[TRAINS]; t++) {
                if (at[t] != NONE) {
                    bits |= 1 << at[t];
                }
            }
            return bits;
        }

        int showing() {
            return (occupied() & ~failsClear) | failsFull;
        }

        int failing(int section) {
            return ((failsClear >> section) & 1) + 2 * ((failsFull >> section) & 1);
        }

        /** The least train in a section, other than the one told (NONE: any). */
        int leastTrainIn(int section, int butFor) {
            for (int t = 0; t < plan.count[TRAINS]; t++) {
                if (t != butFor && at[t] == section) {
                    return t;
                }
            }
            return NONE;
        }

        int notFree() {
            int bits = 0;
            for (int r = 0; r < plan.count[ROUTES]; r++) {
                if (how[r] != FREE) {
                    bits |= 1 << r;
                }
            }
            return bits;
        }

        int routesUsedBy(int train) {
            int bits = 0;
            for (int r = 0; r < plan.count[ROUTES]; r++) {
                if (how[r] == USED && user[r] == train) {
                    bits |= 1 << r;
                }
            }
            return bits;
        }

        int setRouteOf(int signal) {
            for (int r = 0; r < plan.count[ROUTES]; r++) {
                if (plan.routeSignal[r] == signal && how[r] == SET) {
                    return r;
                }
            }
            return NONE;
        }

        int trainsOut() {
            int bits = 0;
            for (int t = 0; t < plan.count[TRAINS]; t++) {
                if (at[t] == NONE) {
                    bits |= 1 << t;
                }
            }
            return bits;
        }

        int waitedByAll() {
            int sum = 0;
            for (int t = 0; t < plan.count[TRAINS]; t++) {
                sum += waited[t];
            }
            return sum;
        }

        /** Points that a route needs otherwise than they lie. */
        int pointsAgainst(int route) {
            return (plan.needsNormal[route] & reverse) | (plan.needsReverse[route] & ~reverse);
        }

        /** Routes that must be free beside a route that is to be set. */
        int barring(int route) {
            int ofSignal = plan.routesOf(plan.routeSignal[route]) & ~(1 << route);
            return plan.locked[route] | ofSignal;
        }

        /** Does what the word tells, if it can be done: 0, or why not. The thing must be there. */
        int perform(int word, int which, int full) {
            switch (word) {
                case WORD_SET: return setRoute(which);
                case WORD_BACK: return putBack(which);
                case WORD_THROW: return throwPoints(which);
                case WORD_FAIL: return failSection(which, full);
                default: return mendSection(which);
            }
        }

        private int whyNotSet(int route) {
            if (how[route] != FREE) {
                return 1;
            }
            if ((barring(route) & notFree()) != 0) {
                return 2;
            }
            if (pointsAgainst(route) != 0) {
                return 3;
            }
            if ((plan.sections[route] & showing()) != 0) {
                return 4;
            }
            return plan.routeSize[route] == 0 ? 5 : 0;
        }

        private int setRoute(int route) {
            int why = whyNotSet(route);
            if (why == 0) {
                how[route] = SET;
            }
            return why;
        }

        private int putBack(int route) {
            if (how[route] != SET) {
                return 1;
            }
            if (isApproached(plan.routeSignal[route])) {
                how[route] = HELD;
                held[route] = plan.count[HOLD];
            } else {
                how[route] = FREE;
            }
            return 0;
        }

        /** Routes that would be free at once, not held, if they were put back. */
        int freeByPuttingBack() {
            int bits = 0;
            for (int r = 0; r < plan.count[ROUTES]; r++) {
                if (how[r] == SET && !isApproached(plan.routeSignal[r])) {
                    bits |= 1 << r;
                }
            }
            return bits;
        }

        private boolean isApproached(int signal) {
            for (int t = 0; t < plan.count[TRAINS]; t++) {
                if (at[t] == plan.signalIn[signal] && plan.trainWay[t] == plan.signalWay[signal]
                        && ((crashed >> t) & 1) == 0) {
                    return true;
                }
            }
            return false;
        }

        private int throwPoints(int points) {
            if (((showing() >> plan.pointsIn[points]) & 1) == 1) {
                return 1;
            }
            int needing = plan.routesNeeding(points, 0) | plan.routesNeeding(points, 1);
            if ((needing & notFree()) != 0) {
                return 2;
            }
            reverse ^= 1 << points;
            return 0;
        }

        private int failSection(int section, int full) {
            if (failing(section) == full + 1) {
                return 1;
            }
            int bit = 1 << section;
            failsClear = full == 0 ? failsClear | bit : failsClear & ~bit;
            failsFull = full == 0 ? failsFull & ~bit : failsFull | bit;
            return 0;
        }

        private int mendSection(int section) {
            if (failing(section) == 0) {
                return 1;
            }
            failsClear &= ~(1 << section);
            failsFull &= ~(1 << section);
            return 0;
        }

        /** As many ticks as are left, n at most: how many went by. */
        int passTicks(int n) {
            int passed = 0;
            while (passed < n && tick < MOST_TICKS) {
                passOne();
                passed++;
            }
            return passed;
        }

        /** One tick, be it behind the last one: forecasts go on there. */
        void passOne() {
            waits = 0;
            for (int t = 0; t < plan.count[TRAINS]; t++) {
                if (at[t] != NONE && ((crashed >> t) & 1) == 0) {
                    runTrain(t);
                }
            }
            for (int r = 0; r < plan.count[ROUTES]; r++) {
                if (how[r] == HELD) {
                    held[r]--;
                    if (held[r] <= 0) {
                        how[r] = FREE;
                    }
                }
            }
            tick++;
        }

        private void runTrain(int t) {
            stay[t]++;
            if (stay[t] < plan.lengths[at[t]]) {
                return;
            }
            int signal = plan.signalAt(at[t], plan.trainWay[t]);
            int goal = signal == NONE ? goalByTracks(t) : goalBySignal(t, signal);
            if (goal == STAYS) {
                waits |= 1 << t;
                waited[t]++;
            } else {
                enter(t, goal);
            }
        }

        /** Where a set route of that signal leads, which the train uses then; STAYS without one. */
        private int goalBySignal(int t, int signal) {
            int route = setRouteOf(signal);
            if (route == NONE) {
                return STAYS;
            }
            how[route] = USED;
            user[route] = t;
            return plan.sectionOf(route, 0);
        }

        /** Where the first track leads by how points lie now; NONE, out, if none goes that way. */
        private int goalByTracks(int t) {
            int without = NONE;
            for (int k = 0; k < plan.count[TRACKS]; k++) {
                int goal = plan.leadsTo(k, at[t], plan.trainWay[t]);
                if (goal != NONE) {
                    if (leadsNow(k)) {
                        return goal;
                    }
                    without = STAYS;
                }
            }
            return without;
        }

        private boolean leadsNow(int track) {
            int points = plan.trackPoints[track];
            return points == NONE || ((reverse >> points) & 1) == plan.trackLie[track];
        }

        /** The train goes into a section, or out (NONE), and frees the routes that it has left. */
        private void enter(int t, int section) {
            int other = section == NONE ? NONE : leastTrainIn(section, t);
            at[t] = section;
            stay[t] = 0;
            if (other != NONE) {
                crash(t, section);
            }
            for (int r = 0; r < plan.count[ROUTES]; r++) {
                if (how[r] == USED && user[r] == t
                        && (section == NONE || ((plan.sections[r] >> section) & 1) == 0)) {
                    how[r] = FREE;
                }
            }
        }

        private void crash(int entering, int section) {
            meets++;
            crashed |= 1 << entering;
            for (int t = 0; t < plan.count[TRAINS]; t++) {
                if (at[t] == section) {
                    crashed |= 1 << t;
                }
            }
            // One who waited earlier in this tick counts as crashed alone.
            waits &= ~crashed;
        }

        /** Ticks with acts drawn by the seed ahead of each: how many went by. */
        int passDrawn(int n, int seed) {
            int x = seed;
            int passed = 0;
            while (passed < n && tick < MOST_TICKS) {
                x = stir(x);
                int lot = lotOf(x, 4);
                int choices = lot < 2 ? plan.count[ROUTES] : lot == 2 ? plan.count[POINTS] : 0;
                if (choices > 0) {
                    x = stir(x);
                    actByLot(lot, lotOf(x, choices));
                }
                passOne();
                passed++;
            }
            return passed;
        }

        private static int stir(int x) {
            return x * 1103515245 + 12345;
        }

        private static int lotOf(int x, int choices) {
            return choices < 1 ? 0 : (x >>> 8) % choices;
        }

        private void actByLot(int lot, int which) {
            if (lot == 2) {
                throwPoints(which);
            } else if (how[which] == SET) {
                putBack(which);
            } else {
                setRoute(which);
            }
        }
    }

    /** What was so ahead of each of the latest acts; the row behind them is for one in the making. */
    private static final class History {
        final State[] before = new State[MOST_KEPT + 1];
        int size = 0;

        History(Plan plan) {
            for (int i = 0; i < before.length; i++) {
                before[i] = new State(plan);
            }
        }

        void note(State state) {
            before[size].copyFrom(state);
        }

        /** What was noted last can be taken back; the eldest gives way if there is no room. */
        void keepNoted() {
            if (size < MOST_KEPT) {
                size++;
                return;
            }
            State eldest = before[0];
            for (int i = 0; i < MOST_KEPT; i++) {
                before[i] = before[i + 1];
            }
            before[MOST_KEPT] = eldest;
        }

        int takeBack(State state) {
            if (size == 0) {
                return NONE;
            }
            size--;
            state.copyFrom(before[size]);
            return size;
        }
    }

    /** The lines of the latest BOOK, and how the latest one without a fault was judged. */
    private static final class Book {
        final int[] words = new int[MOST_LINES];
        final int[] things = new int[MOST_LINES];
        final int[] full = new int[MOST_LINES];
        int lines = 0;

        boolean judged = false;
        int why = 0;
        int goodLines = 0;
        int tickThen = 0;
        int notFreeThen = 0;

        boolean readLines(Text text, Plan plan) {
            text.begin(BOOK_BYTES);
            lines = 0;
            text.next();
            while (text.kind != Text.END && lines <= MOST_LINES) {
                if (!readLine(text, plan) || !text.mustBe(';')) {
                    return false;
                }
                lines++;
                text.next();
            }
            return true;
        }

        private boolean readLine(Text text, Plan plan) {
            int word = text.key;
            if (!isAct(word)) {
                return text.wrong(1);
            }
            if (lines >= MOST_LINES) {
                return text.wrong(4);
            }
            int thing = word == WORD_TICK
                    ? text.nextNumber(1, TICKS_ASKED) : text.nextNamed(plan, sortOfAct(word));
            if (thing == NONE) {
                return false;
            }
            int side = word == WORD_FAIL ? text.nextOfTwo(WORD_CLEAR) : 0;
            if (side == NONE) {
                return false;
            }
            words[lines] = word;
            things[lines] = thing;
            full[lines] = side;
            text.next();
            return true;
        }

        private static boolean isAct(int word) {
            return word == WORD_SET || word == WORD_BACK || word == WORD_THROW
                    || word == WORD_FAIL || word == WORD_MEND || word == WORD_TICK;
        }

        /** Lives the lines in that state as far as they are not wrong: the wrong one, or NONE. */
        int judge(State state) {
            why = 0;
            goodLines = 0;
            while (why == 0 && goodLines < lines) {
                why = liveLine(state, goodLines);
                if (why == 0) {
                    goodLines++;
                }
            }
            judged = true;
            tickThen = state.tick;
            notFreeThen = state.notFree();
            return why == 0 ? NONE : goodLines;
        }

        private int liveLine(State state, int line) {
            if (words[line] == WORD_TICK) {
                if (state.tick + things[line] > MOST_TICKS) {
                    return 51;
                }
                state.passTicks(things[line]);
                return 0;
            }
            int reason = state.perform(words[line], things[line], full[line]);
            return reason == 0 ? 0 : tensOf(words[line]) + reason;
        }

        private static int tensOf(int word) {
            switch (word) {
                case WORD_BACK: return 10;
                case WORD_THROW: return 20;
                case WORD_FAIL: return 30;
                case WORD_MEND: return 40;
                default: return 0;
            }
        }

        int tellJudgement(int what) {
            if (!judged) {
                return NONE;
            }
            switch (what) {
                case 0: return why;
                case 1: return goodLines;
                case 2: return tickThen;
                case 3: return notFreeThen;
                default: return NONE;
            }
        }
    }

    /** A SENTENCE as steps, operands ahead of what joins them; each yields trains as bits. */
    private static final class Sentence {
        boolean known = false;
        int ones = 0;
        int size = 0;
        final int[] words = new int[2 * MOST_ONES];
        final int[] things = new int[2 * MOST_ONES];
        final int[] signs = new int[2 * MOST_ONES];
        final int[] stack = new int[2 * MOST_ONES];

        void copyFrom(Sentence other) {
            known = other.known;
            ones = other.ones;
            size = other.size;
            copyRow(other.words, words);
            copyRow(other.things, things);
            copyRow(other.signs, signs);
        }

        boolean readOnes(Text text, Plan plan) {
            text.begin(SENTENCE_BYTES);
            ones = 0;
            size = 0;
            known = false;
            text.next();
            if (!readCond(text, plan, 1)) {
                return false;
            }
            if (text.kind != Text.END) {
                return text.wrong(1);
            }
            known = true;
            return true;
        }

        private void addStep(int word, int thing, int sign) {
            if (size < words.length) {
                words[size] = word;
                things[size] = thing;
                signs[size] = sign;
                size++;
            }
        }

        private boolean readCond(Text text, Plan plan, int within) {
            if (!readAll(text, plan, within)) {
                return false;
            }
            for (int more = 0; more < MOST_ONES && text.key == WORD_OR; more++) {
                text.next();
                if (!readAll(text, plan, within)) {
                    return false;
                }
                addStep(WORD_OR, 0, 0);
            }
            return true;
        }

        private boolean readAll(Text text, Plan plan, int within) {
            if (!readOne(text, plan, within)) {
                return false;
            }
            for (int more = 0; more < MOST_ONES && text.key == WORD_AND; more++) {
                text.next();
                if (!readOne(text, plan, within)) {
                    return false;
                }
                addStep(WORD_AND, 0, 0);
            }
            return true;
        }

        /** Reads a ONE from its first token, read already, to the token behind it. */
        private boolean readOne(Text text, Plan plan, int within) {
            boolean bracket = text.isSign('(');
            int word = text.key;
            if (!bracket && (word < WORD_NOT || word > WORD_NUMBER)) {
                return text.wrong(1);
            }
            if (ones >= MOST_ONES || within > MOST_WITHIN) {
                return text.wrong(4);
            }
            ones++;
            if (bracket) {
                text.next();
                if (!readCond(text, plan, within + 1) || !text.mustBe(')')) {
                    return false;
                }
            } else if (word == WORD_NOT) {
                text.next();
                if (!readOne(text, plan, within + 1)) {
                    return false;
                }
                addStep(WORD_NOT, 0, 0);
                return true;
            } else if (!readPlainOne(text, plan, word)) {
                return false;
            }
            text.next();
            return true;
        }

        private boolean readPlainOne(Text text, Plan plan, int word) {
            int thing = 0;
            int sign = 0;
            if (word == WORD_IN || word == WORD_USING) {
                thing = text.nextNamed(plan, word == WORD_IN ? SECTIONS : ROUTES);
            } else if (word >= WORD_TICKS) {
                text.next();
                if (!text.isSign('<') && !text.isSign('=') && !text.isSign('>')) {
                    return text.wrong(1);
                }
                sign = text.value;
                thing = text.nextNumber(0, 999);
            }
            if (thing == NONE) {
                return false;
            }
            addStep(word, thing, sign);
            return true;
        }

        int trainsFitting(Plan plan, State state) {
            int all = (1 << plan.count[TRAINS]) - 1;
            int top = 0;
            for (int i = 0; i < size; i++) {
                if (words[i] == WORD_NOT && top >= 1) {
                    stack[top - 1] = all & ~stack[top - 1];
                } else if (words[i] == WORD_AND && top >= 2) {
                    top--;
                    stack[top - 1] &= stack[top];
                } else if (words[i] == WORD_OR && top >= 2) {
                    top--;
                    stack[top - 1] |= stack[top];
                } else if (top < stack.length) {
                    stack[top] = trainsOfStep(plan, state, i);
                    top++;
                }
            }
            return stack[0];
        }

        private int trainsOfStep(Plan plan, State state, int step) {
            switch (words[step]) {
                case WORD_OUT: return state.trainsOut();
                case WORD_CRASHED: return state.crashed;
                case WORD_WAITING: return state.waits;
                default: break;
            }
            int bits = 0;
            for (int t = 0; t < plan.count[TRAINS]; t++) {
                if (isTrueOf(state, step, t)) {
                    bits |= 1 << t;
                }
            }
            return bits;
        }

        private boolean isTrueOf(State state, int step, int t) {
            switch (words[step]) {
                case WORD_IN: return state.at[t] == things[step];
                case WORD_USING: return ((state.routesUsedBy(t) >> things[step]) & 1) == 1;
                case WORD_TICKS: return compares(state.stay[t], step);
                case WORD_WAITED: return compares(state.waited[t], step);
                default: return compares(t, step);
            }
        }

        private boolean compares(int number, int step) {
            if (signs[step] == '<') {
                return number < things[step];
            }
            return signs[step] == '>' ? number > things[step] : number == things[step];
        }
    }

    /** What is kept in one place of image(). */
    private static final class Image {
        final Plan plan = new Plan();
        final State state;
        final Sentence saying = new Sentence();
        boolean kept = false;

        Image(Plan live) {
            state = new State(live);
        }

        void keep(Plan livePlan, State liveState, Sentence liveSaying) {
            plan.copyFrom(livePlan);
            state.copyFrom(liveState);
            saying.copyFrom(liveSaying);
            kept = true;
        }

        void giveBack(Plan livePlan, State liveState, Sentence liveSaying) {
            livePlan.copyFrom(plan);
            liveState.copyFrom(state);
            liveSaying.copyFrom(saying);
        }
    }

    /**
     * What is to be pulled ahead of a route, by which routes a train comes somewhere, and in how
     * many rounds all routes can be set; the first two as they were told last.
     */
    private static final class Counsel {
        static final int FAR = 100;

        final int[] pulled = new int[MOST_ROUTES + MOST_POINTS];
        int pulledSize = 0;
        final int[] steps = new int[MOST_ROUTES];
        int stepsSize = 0;
        // How many routes lead from each section to the one that is looked for.
        final int[] far = new int[MOST_SECTIONS];
        // The routes of each round while countRounds() tries.
        final int[] tried = new int[MOST_ROUTES];

        int workOutPulls(Plan plan, State state, int route) {
            if (!plan.has(ROUTES, route) || state.how[route] != FREE || plan.routeSize[route] == 0
                    || (plan.sections[route] & state.showing()) != 0) {
                return NONE;
            }
            int points = state.pointsAgainst(route);
            int routes = state.barring(route);
            int stuck = 0;
            for (int p = 0; p < plan.count[POINTS]; p++) {
                if (((points >> p) & 1) == 1) {
                    routes |= plan.routesNeeding(p, 0) | plan.routesNeeding(p, 1);
                    stuck |= (state.showing() >> plan.pointsIn[p]) & 1;
                }
            }
            routes &= state.notFree();
            if (stuck != 0 || (routes & ~state.freeByPuttingBack()) != 0) {
                return NONE;
            }
            pulledSize = 0;
            addPulls(routes, plan.count[ROUTES], 0);
            addPulls(points, plan.count[POINTS], SIXTEEN);
            return pulledSize;
        }

        private void addPulls(int bits, int most, int more) {
            for (int i = 0; i < most; i++) {
                if (((bits >> i) & 1) == 1 && pulledSize < pulled.length) {
                    pulled[pulledSize] = more + i;
                    pulledSize++;
                }
            }
        }

        int pullAt(int k) {
            return k >= 0 && k < pulledSize ? pulled[k] : NONE;
        }

        int workOutPath(Plan plan, State state, int train, int section) {
            if (!plan.has(TRAINS, train) || !plan.has(SECTIONS, section) || state.at[train] == NONE) {
                return NONE;
            }
            int from = state.at[train];
            if (from == section) {
                stepsSize = 0;
                return 0;
            }
            int way = plan.trainWay[train];
            measure(plan, way, section);
            if (far[from] >= FAR) {
                return NONE;
            }
            walk(plan, from, way, section);
            return stepsSize;
        }

        /** How many routes lead to the section if one begins with that one. */
        private int costOf(Plan plan, int route, int section) {
            if (((plan.sections[route] >> section) & 1) == 1) {
                return 1;
            }
            return 1 + far[plan.endOf(route)];
        }

        private void measure(Plan plan, int way, int section) {
            Arrays.fill(far, FAR);
            // A shortest row has each route once, so as many turns as there are routes are enough.
            for (int turn = 0; turn < plan.count[ROUTES]; turn++) {
                for (int r = 0; r < plan.count[ROUTES]; r++) {
                    int signal = plan.routeSignal[r];
                    if (plan.signalWay[signal] == way && plan.routeSize[r] > 0) {
                        int start = plan.signalIn[signal];
                        far[start] = Math.min(far[start], costOf(plan, r, section));
                    }
                }
            }
        }

        private void walk(Plan plan, int from, int way, int section) {
            int here = from;
            stepsSize = 0;
            int left = far[here];
            while (left > 0 && stepsSize < steps.length) {
                int r = leastStep(plan, here, way, section);
                if (r == NONE) {
                    return;
                }
                steps[stepsSize] = r;
                stepsSize++;
                here = plan.endOf(r);
                left--;
            }
        }

        private int leastStep(Plan plan, int here, int way, int section) {
            int signal = plan.signalAt(here, way);
            for (int r = 0; r < plan.count[ROUTES]; r++) {
                if (plan.routeSignal[r] == signal && plan.routeSize[r] > 0
                        && costOf(plan, r, section) == far[here]) {
                    return r;
                }
            }
            return NONE;
        }

        int stepAt(int k) {
            return k >= 0 && k < stepsSize ? steps[k] : NONE;
        }

        int countRounds(Plan plan) {
            Arrays.fill(tried, 0);
            return placeRoute(plan, 0, 0, plan.count[ROUTES] + 1);
        }

        /** The fewest rounds, or best if there are no fewer, with routes below r placed in used ones. */
        private int placeRoute(Plan plan, int r, int used, int best) {
            if (used >= best) {
                return best;
            }
            if (r >= plan.count[ROUTES]) {
                return used;
            }
            int fewest = best;
            for (int k = 0; k <= used && k < tried.length; k++) {
                if ((tried[k] & plan.clashes[r]) == 0) {
                    tried[k] |= 1 << r;
                    fewest = placeRoute(plan, r + 1, k == used ? used + 1 : used, fewest);
                    tried[k] &= ~(1 << r);
                }
            }
            return fewest;
        }
    }

    /** Which single failures explain what was seen, and where to look next, as told last. */
    private static final class Diagnosis {
        final int[] failures = new int[2 * MOST_SECTIONS + 1];
        int size = 0;
        int next = NONE;

        int workOut(Text tape, Plan plan, int occupied) {
            if (!isReport(tape, plan)) {
                return NONE;
            }
            int found = 0;
            int none = 2 * plan.count[SECTIONS];
            for (int f = 0; f <= none; f++) {
                if (explains(tape, f, none, occupied)) {
                    found++;
                }
            }
            if (found > 0) {
                keepFailures(tape, none, occupied);
                next = bestLook(plan.count[SECTIONS], occupied);
            }
            return found;
        }

        private static boolean isReport(Text tape, Plan plan) {
            if (tape.size < 2 || tape.size > 2 * MOST_SHOWN || tape.size % 2 != 0) {
                return false;
            }
            for (int i = 0; i + 1 < tape.size; i += 2) {
                if (!plan.has(SECTIONS, tape.bytes[i]) || tape.bytes[i + 1] > 1) {
                    return false;
                }
            }
            return true;
        }

        private void keepFailures(Text tape, int none, int occupied) {
            size = 0;
            for (int f = 0; f <= none && size < failures.length; f++) {
                if (explains(tape, f, none, occupied)) {
                    failures[size] = f;
                    size++;
                }
            }
        }

        private static boolean explains(Text tape, int failure, int none, int occupied) {
            for (int i = 0; i + 1 < tape.size; i += 2) {
                if (shownBy(failure, none, tape.bytes[i], occupied) != tape.bytes[i + 1]) {
                    return false;
                }
            }
            return true;
        }

        /** What a section shows (1 full) if that failure alone is there. */
        private static int shownBy(int failure, int none, int section, int occupied) {
            if (failure != none && failure / 2 == section) {
                return failure % 2;
            }
            return (occupied >> section) & 1;
        }

        private int bestLook(int sections, int occupied) {
            int best = NONE;
            int leastLeft = size + 1;
            for (int s = 0; s < sections; s++) {
                int full = 0;
                for (int i = 0; i < size; i++) {
                    full += shownBy(failures[i], 2 * sections, s, occupied);
                }
                int left = Math.max(full, size - full);
                if (left < leastLeft) {
                    leastLeft = left;
                    best = s;
                }
            }
            return best;
        }

        int failureAt(int k) {
            return k >= 0 && k < size ? failures[k] : NONE;
        }
    }

    /** The latest TAG of a train, as bytes. */
    private static final class Tag {
        // Two NAMES of seven, ' in ' and ' crashed' are the most.
        final int[] bytes = new int[26];
        int size = 0;

        void write(Plan plan, State state, int train) {
            size = 0;
            addName(plan.nameOf(TRAINS, train));
            if (state.at[train] == NONE) {
                addText(" out");
            } else {
                addText(" in ");
                addName(plan.nameOf(SECTIONS, state.at[train]));
            }
            if (((state.crashed >> train) & 1) == 1) {
                addText(" crashed");
            } else if (((state.waits >> train) & 1) == 1) {
                addText(" waits");
            }
        }

        private void addByte(int c) {
            if (size < bytes.length) {
                bytes[size] = c;
                size++;
            }
        }

        private void addText(String text) {
            for (int i = 0; i < text.length(); i++) {
                addByte(text.charAt(i));
            }
        }

        private void addName(long name) {
            for (int shift = 30; shift >= 0; shift -= 5) {
                int letter = (int) ((name >> shift) & 31);
                if (letter != 0) {
                    addByte('a' + letter - 1);
                }
            }
        }

        int at(int i) {
            return i >= 0 && i < size ? bytes[i] : NONE;
        }
    }
}
