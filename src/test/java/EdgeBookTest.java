/**
 * The edges of books, sentences, images and counts: for each sentence of promises 40 to 46 the last
 * that is taken, the first that is refused, and what stands afterwards.
 */
public final class EdgeBookTest {
    private static final int[] NEVER = {-2, Integer.MIN_VALUE, Integer.MAX_VALUE, 16, 31, 32, 64, 256};

    private EdgeBookTest() {
    }

    public static void main(String[] args) {
        livesOtherwise();
        judgedOnly();
        livedAsFar();
        noLineIsWrong();
        lastLineIsWrong();
        placeOfBookFault();
        toldAheadOfAny();
        toldAnotherWhat();
        toldOfTheLatest();
        toldWhy();
        toldFewerTicks();
        toldThen();
        onesCounted();
        sentenceStays();
        saidHowMany();
        saidNoSentence();
        saidNoneSuch();
        saidOfAll();
        saidJoined();
        saidEach();
        imagePlaces();
        imageKeepsAll();
        imageKeptAnew();
        restorePlaces();
        restoreLeaves();
        restoreNothingUndone();
        restoreAtTheEnds();
        counts();
        manyCalls();
        Check.finish("EdgeBookTest");
    }

    private static void dueTold(LeverFrame x, int why, int lines, int tick, int notFree) {
        Check.due("why", x.told(0), why);
        Check.due("lines", x.told(1), lines);
        Check.due("the tick then", x.told(2), tick);
        Check.due("not free then", x.told(3), notFree);
    }

    /** A frame of the junction at tick 960 by one book, so that few acts are kept. */
    private static LeverFrame late() {
        LeverFrame x = Check.laid(Check.JUNCTION);
        Check.due("to 960", Check.book(x, Check.times(16, "tick 60;"), 1), -1);
        Check.due("tick", x.now(0), 960);
        return x;
    }

    private static void livesOtherwise() {
        Check.part("promise 40: -1000: another lives (the tape stays)");
        LeverFrame x = Check.laid(Check.JUNCTION);
        Check.tape(x, "tick 5;");
        for (int no : new int[] {-1, 2, 3, -1000, 256, Integer.MIN_VALUE, Integer.MAX_VALUE}) {
            Check.due("lives " + no, x.book(no), -1000);
            Check.due("the tape", x.count(8), 7);
            Check.due("nothing is lived", x.now(0), 0);
            Check.due("nothing is told", x.told(0), -1);
            Check.due("no fault", x.fault(), 0);
        }
        Check.due("judged by the same tape", x.book(0), -1);
        Check.due("the tape is empty", x.count(8), 0);
        Check.due("told", x.told(2), 5);
        Check.tape(x, ".");
        Check.due("a faulty one is not looked at", x.book(2), -1000);
        Check.due("no fault", x.fault(), 0);
        Check.due("the tape", x.count(8), 1);
    }

    private static void judgedOnly() {
        Check.part("promise 40: it is judged, all staying as it is (lives 0)");
        LeverFrame x = Check.laid(Check.JUNCTION);
        x.set(0);
        x.ticks(1);
        Check.due("none is wrong", Check.book(x, "tick 60;tick 60;fail w full;throw p;", 0), -1);
        Check.due("tick", x.now(0), 1);
        Check.due("routes", x.now(2), 1);
        Check.due("points", x.now(3), 0);
        Check.due("fails", x.section(0, 3), 0);
        Check.due("ann", Check.train(x, 0, 0) + Check.train(x, 0, 2), 1);
        Check.due("nothing more to undo", x.undo(), 1);
        Check.due("wrong", Check.book(x, "tick 1;set rm;", 0), 1);
        Check.due("tick", x.now(0), 0);
    }

    private static void livedAsFar() {
        Check.part("promise 40: or lived as far as it is not WRONG (1): the LINE that is WRONG");
        for (int good = 0; good < 6; good++) {
            LeverFrame x = Check.laid(Check.JUNCTION);
            String text = Check.times(good, "tick 2;") + "mend m;" + Check.times(3, "tick 1;");
            Check.due("wrong behind " + good, Check.book(x, text, 1), good);
            Check.due("lived", x.now(0), 2 * good);
            dueTold(x, 41, good, 2 * good, 0);
            Check.due("one to undo, if any was lived", x.undo(), good == 0 ? -1 : 0);
            Check.due("undone as one", x.now(0), 0);
        }
    }

    private static void noLineIsWrong() {
        Check.part("promise 40: NONE: none");
        LeverFrame x = Check.laid(Check.JUNCTION);
        Check.due("no lines", Check.book(x, "", 0), -1);
        dueTold(x, 0, 0, 0, 0);
        Check.due("no lines", Check.book(x, " \n ", 1), -1);
        dueTold(x, 0, 0, 0, 0);
        Check.due("nothing to undo", x.undo(), -1);
        Check.due("one line", Check.book(x, "set rm;", 1), -1);
        dueTold(x, 0, 1, 0, 1);
        Check.due("forty lines", Check.book(x, "back rm;" + Check.times(39, "tick 1;"), 1), -1);
        dueTold(x, 0, 40, 39, 0);
        Check.due("two to undo", x.undo(), 1);
    }

    private static void lastLineIsWrong() {
        Check.part("promise 40: the LINE that is WRONG, the first and the last that may be");
        LeverFrame x = Check.laid(Check.JUNCTION);
        Check.due("the first", Check.book(x, "back rm;" + Check.times(39, "tick 1;"), 1), 0);
        Check.due("none lived", x.now(0), 0);
        Check.due("the fortieth", Check.book(x, Check.times(39, "tick 1;") + "back rm;", 1), 39);
        Check.due("all ahead of it", x.now(0), 39);
        Check.due("only the first wrong one counts", Check.book(x, "tick 1;back rm;back um;", 0), 1);
    }

    private static void placeOfBookFault() {
        Check.part("promise 40: -2 less the place of a FAULT");
        LeverFrame x = Check.laid(Check.JUNCTION);
        Check.due("at place 0", Check.book(x, ".", 0), -2);
        Check.due("at place 1", Check.book(x, " .", 1), -3);
        Check.due("at the most bytes", Check.book(x, Check.blanks(1460), 1), -402);
        Check.due("at the end", Check.book(x, "tick 5", 1), -8);
        Check.due("behind good lines", Check.book(x, "tick 5;tick 5;tick", 1), -20);
        Check.due("none is lived", x.now(0), 0);
        Check.due("nothing to undo", x.undo(), -1);
        Check.due("a fault goes ahead of a wrong line", Check.book(x, "back rm;tick 0;", 1), -2 - 13);
    }

    private static void toldAheadOfAny() {
        Check.part("promise 41: NONE: ahead of any");
        LeverFrame x = new LeverFrame();
        for (int what = -1; what <= 4; what++) {
            Check.due("ahead of any", x.told(what), -1);
        }
        Check.book(x, "tick", 0);
        Check.book(x, "tick 5;", 3);
        for (int what = 0; what < 4; what++) {
            Check.due("ahead of any without a fault", x.told(what), -1);
        }
        x.book(1);
        dueTold(x, 0, 1, 5, 0);
    }

    private static void toldAnotherWhat() {
        Check.part("promise 41: NONE: another what");
        LeverFrame x = Check.laid(Check.JUNCTION);
        Check.book(x, "set rm;tick 3;", 0);
        dueTold(x, 0, 2, 3, 1);
        Check.due("one more", x.told(4), -1);
        Check.due("below", x.told(-1), -1);
        for (int no : NEVER) {
            Check.due("another", x.told(no), -1);
        }
    }

    private static void toldOfTheLatest() {
        Check.part("promise 41: Of the latest book() that had no FAULT (and was not -1000)");
        LeverFrame x = Check.laid(Check.JUNCTION);
        Check.book(x, "set rm;back um;", 0);
        dueTold(x, 11, 1, 0, 1);
        Check.book(x, "tick 9;tick 0;", 1);
        dueTold(x, 11, 1, 0, 1);
        Check.tape(x, "tick 9;");
        x.book(2);
        dueTold(x, 11, 1, 0, 1);
        x.end(0);
        x.ticks(7);
        x.undo();
        x.image(0);
        x.restore(0);
        dueTold(x, 11, 1, 0, 1);
        Check.layout(x, "");
        dueTold(x, 11, 1, 0, 1);
        Check.book(x, "", 0);
        dueTold(x, 0, 0, 0, 0);
    }

    private static void dueWhy(String text, int line, int why) {
        LeverFrame x = Check.laid(Check.JUNCTION + "route e ms;");
        Check.due(text, Check.book(x, text, 0), line);
        Check.due("why of " + text, x.told(0), why);
        Check.due("lived " + text, Check.book(x, text, 1), line);
        Check.due("why of lived " + text, x.told(0), why);
    }

    private static void toldWhy() {
        Check.part("promise 41: 0 why it was WRONG (1 to 5 as for setting, 11, 21, 22, 31, 41)");
        dueWhy("set rm;", -1, 0);
        dueWhy("set rm;set rm;", 1, 1);
        dueWhy("set rm;back rm;set rm;", 2, 1);
        dueWhy("set rm;tick 2;set rm;", 2, 1);
        dueWhy("set rm;set rb;", 1, 2);
        dueWhy("set rm;set um;", 1, 2);
        dueWhy("set rb;", 0, 3);
        dueWhy("throw p;set rm;", 1, 3);
        dueWhy("set um;", 0, 4);
        dueWhy("fail m full;set rm;", 1, 4);
        dueWhy("set e;", 0, 5);
        dueWhy("back rm;", 0, 11);
        dueWhy("set rm;back rm;back rm;", 2, 11);
        dueWhy("fail j full;throw p;", 1, 21);
        dueWhy("set rm;tick 2;throw p;", 2, 21);
        dueWhy("set rm;throw p;", 1, 22);
        dueWhy("fail j clear;fail j clear;", 1, 31);
        dueWhy("fail j full;fail j full;", 1, 31);
        dueWhy("fail j full;fail j clear;", -1, 0);
        dueWhy("mend j;", 0, 41);
        dueWhy("fail j full;mend j;mend j;", 2, 41);
    }

    private static void toldFewerTicks() {
        Check.part("promise 41: 51: fewer TICKS are left");
        LeverFrame x = late();
        Check.due("forty are left", Check.book(x, "tick 40;", 0), -1);
        dueTold(x, 0, 1, 1000, 0);
        Check.due("forty-one are not", Check.book(x, "tick 41;", 0), 0);
        dueTold(x, 51, 0, 960, 0);
        Check.due("sixty are not", Check.book(x, "tick 60;", 1), 0);
        dueTold(x, 51, 0, 960, 0);
        Check.due("none of them goes by", x.now(0), 960);
        Check.due("one too many", Check.book(x, "tick 39;tick 1;tick 1;", 1), 2);
        dueTold(x, 51, 2, 1000, 0);
        Check.due("tick", x.now(0), 1000);
        Check.due("none is left", Check.book(x, "tick 1;", 1), 0);
        dueTold(x, 51, 0, 1000, 0);
        Check.due("acts are not wrong then", Check.book(x, "set rm;", 1), -1);
        dueTold(x, 0, 1, 1000, 1);
        Check.due("three to undo", x.undo(), 2);
        Check.due("the two lines are undone as one", x.undo(), 1);
        Check.due("tick", x.now(0), 960);
    }

    private static void toldThen() {
        Check.part("promise 41: 1 LINES that are not, 2 the TICK then, 3 ROUTES that are not FREE then, as bits");
        LeverFrame x = Check.laid(Check.FULL);
        Check.due("all that can be", Check.book(x, "throw r;set rj;set ra;", 0), -1);
        dueTold(x, 0, 3, 0, 513);
        Check.due("held counts", Check.book(x, "throw r;set rj;back rj;tick 29;", 0), -1);
        dueTold(x, 0, 4, 29, 512);
        Check.due("free behind the last", Check.book(x, "throw r;set rj;back rj;tick 30;", 0), -1);
        dueTold(x, 0, 4, 30, 0);
        Check.due("used counts", Check.book(x, "throw r;set rj;tick 1;set rj;", 0), 3);
        dueTold(x, 1, 3, 1, 512);
        Check.due("nothing is so now", x.now(2), 0);
    }

    private static void onesCounted() {
        Check.part("promise 42: how many ONES (each not, bracket and other one)");
        LeverFrame x = Check.laid(Check.JUNCTION);
        String[] texts = {"out", "crashed", "waiting", "in w", "using rm", "ticks<1", "waited=1", "number>1", "not out", "(out)",
            "not(out)", "not not out", "out or out", "out and out", "(out or out)and not out", "((out))"};
        int[] ones = {1, 1, 1, 1, 1, 1, 1, 1, 2, 2, 3, 3, 2, 2, 5, 3};
        for (int i = 0; i < texts.length; i++) {
            Check.due(texts[i], Check.sentence(x, texts[i]), ones[i]);
        }
    }

    private static void sentenceStays() {
        Check.part("promise 42: -1 less the place of a FAULT: it stays");
        LeverFrame x = Check.laid(Check.JUNCTION);
        Check.due("none yet, and none by a fault", Check.sentence(x, "."), -1);
        Check.due("there is none", x.said(-1), -1);
        Check.sentence(x, "in b");
        Check.due("at place 0", Check.sentence(x, "."), -1);
        Check.due("at the end", Check.sentence(x, "in w or"), -8);
        Check.due("at the most bytes", Check.sentence(x, Check.blanks(1460)), -201);
        Check.due("too many", Check.sentence(x, "in w" + Check.times(20, " or out")), -1 - 4 - 19 * 7 - 4);
        Check.due("the older one", x.said(-1), 1);
        Check.due("bob", x.said(0), 1);
        Check.sentence(x, "out");
        Check.due("the new one", x.said(-1), 0);
    }

    private static void saidHowMany() {
        Check.part("promise 43: how many (k NONE), or the k-th");
        LeverFrame x = Check.laid(Check.FULL);
        for (int n = 0; n <= 6; n++) {
            Check.sentence(x, "number<" + n);
            int many = Math.min(5, n);
            Check.due("how many below " + n, x.said(-1), many);
            for (int k = 0; k <= 6; k++) {
                Check.due("the " + k + "-th below " + n, x.said(k), k < many ? k : -1);
            }
        }
        Check.sentence(x, "number=1 or number=4");
        Check.due("two", x.said(-1), 2);
        Check.due("the first", x.said(0), 1);
        Check.due("the last", x.said(1), 4);
        Check.due("no more", x.said(2), -1);
    }

    private static void saidNoSentence() {
        Check.part("promise 43: NONE: there is no SENTENCE");
        LeverFrame x = new LeverFrame();
        for (int k = -2; k < 6; k++) {
            Check.due("a new object", x.said(k), -1);
        }
        Check.due("without trains", Check.sentence(x, "not out"), 2);
        Check.due("of none", x.said(-1), 0);
        Check.due("no first", x.said(0), -1);
        Check.layout(x, Check.JUNCTION);
        Check.due("a new layout", x.said(-1), -1);
        Check.sentence(x, "not out");
        Check.due("both", x.said(-1), 2);
        Check.layout(x, "hold 0;");
        Check.due("a faulty layout", x.said(-1), 2);
    }

    private static void saidNoneSuch() {
        Check.part("promise 43: NONE: none such");
        LeverFrame x = Check.laid(Check.FULL);
        Check.sentence(x, "not out");
        Check.due("all", x.said(-1), 5);
        Check.due("the last", x.said(4), 4);
        Check.due("one more", x.said(5), -1);
        for (int no : NEVER) {
            Check.due("none such", x.said(no), -1);
        }
    }

    private static void saidOfAll() {
        Check.part("promise 43: TRAINS of which it may be said, whatever they do");
        LeverFrame x = Check.laid("section a 1;section b 1;section c 1;section d 3;section e 1;track a b;signal g b down;signal h c down;"
                + "train t a down;train u b down;train v c down;train w d down;train y e down;");
        x.ticks(1);
        String[] texts = {"crashed", "out", "waiting", "not crashed and not out and not waiting", "in b", "in a", "ticks=0", "ticks=1",
            "waited=1", "waited=0", "not(in b or in c or in d)", "crashed and waiting", "out and ticks>0"};
        int[] bits = {3, 16, 4, 8, 3, 0, 19, 12, 4, 27, 16, 0, 0};
        for (int i = 0; i < texts.length; i++) {
            Check.sentence(x, texts[i]);
            int got = 0;
            for (int k = 0; k < x.said(-1); k++) {
                got |= 1 << x.said(k);
            }
            Check.due(texts[i], got, bits[i]);
        }
    }

    private static void saidJoined() {
        Check.part("COND: ALL { 'or' ALL }. ALL: ONE { 'and' ONE }, with as many as there may be");
        LeverFrame x = Check.laid(Check.JUNCTION);
        String[] texts = {"out" + Check.times(18, " or out") + " or in b", "in b" + Check.times(19, " or out"),
            "not in w" + Check.times(18, " and in b"), "ticks<9" + Check.times(14, " and ticks<9") + " and in b",
            "(out" + Check.times(17, " or out") + ")or in b", "in b and in b or out and out or out and out or out and out",
            "out or number<9 and in b", "out or number<9 and(out or in b and not in w)", "in b and number=1 or in b and number=0",
            "out and in w or in b", "out or out and in w or in b", "(out or in b)and(out or number>0)", "not(in w or in b and out)",
            "out or(out or(out or(out or(out or in b and(number<9 and(out or in b))))))"};
        for (String text : texts) {
            Check.due("taken: " + text, Check.sentence(x, text) > 0, true);
            Check.due("of bob alone: " + text, x.said(-1), 1);
            Check.due("of bob alone: " + text, x.said(0), 1);
        }
    }

    private static void saidEach() {
        Check.part("SIGN: < = > at the number itself, one less and one more");
        LeverFrame x = Check.laid("section a 1;signal g a down;train t a down;");
        x.ticks(7);
        for (String word : new String[] {"ticks", "waited"}) {
            for (int n = 6; n <= 8; n++) {
                Check.sentence(x, word + "<" + n);
                Check.due(word + "<" + n, x.said(-1), 7 < n ? 1 : 0);
                Check.sentence(x, word + "=" + n);
                Check.due(word + "=" + n, x.said(-1), 7 == n ? 1 : 0);
                Check.sentence(x, word + ">" + n);
                Check.due(word + ">" + n, x.said(-1), 7 > n ? 1 : 0);
            }
        }
        Check.due("to 997", Check.book(x, Check.times(16, "tick 60;") + "tick 30;", 1), -1);
        Check.sentence(x, "waited>996 and ticks<998 and ticks=997");
        Check.due("so it is", x.said(-1), 1);
        x.ticks(3);
        Check.sentence(x, "waited>999 and ticks>999");
        Check.due("a thousand is above the greatest number", x.said(-1), 1);
        // A set route is not used; a used one is, as long as its train has a section of it.
        LeverFrame y = Check.laid(Check.FULL);
        y.turn(5);
        y.set(9);
        Check.sentence(y, "using rj");
        Check.due("set", y.said(-1), 0);
        y.ticks(1);
        Check.due("used", y.said(0), 4);
        y.undo();
        Check.due("undone, the sentence stays", y.said(-1), 0);
    }

    private static void imagePlaces() {
        Check.part("promise 44: place k (0, 1): true; false: no such one");
        LeverFrame x = Check.laid(Check.JUNCTION);
        for (int no : new int[] {-1, 2, 3, Integer.MIN_VALUE, Integer.MAX_VALUE}) {
            Check.due("no such place", x.image(no), false);
        }
        Check.due("nothing is kept", x.restore(0) || x.restore(1), false);
        Check.due("the first", x.image(0), true);
        Check.due("the other has nothing", x.restore(1), false);
        Check.due("the second", x.image(1), true);
        Check.due("the second", x.restore(1), true);
        Check.due("a new object", new LeverFrame().image(1), true);
    }

    private static void imageKeepsAll() {
        Check.part("promise 44: LAYOUT, all that is so and the SENTENCE are kept");
        LeverFrame x = Check.laid(Check.FULL);
        x.turn(5);
        x.set(9);
        x.ticks(1);
        x.set(0);
        x.fail(3, 0);
        x.fail(11, 1);
        x.set(6);
        x.back(6);
        Check.sentence(x, "using rj");
        Check.due("kept", x.image(0), true);
        int[] before = everything(x);
        Check.layout(x, "");
        x.ticks(9);
        Check.sentence(x, "not out");
        Check.due("restored", x.restore(0), true);
        int[] after = everything(x);
        for (int i = 0; i < before.length; i++) {
            Check.due("answer " + i, after[i], before[i]);
        }
        Check.dueText("names", Check.tag(x, 4), "te in i");
        Check.due("names", Check.book(x, "mend l;mend d;back ra;throw o;tick 1;", 1), -1);
        Check.due("hold", x.count(7), 30);
        Check.due("the sentence", x.said(0), 4);
    }

    /** What all questions about a full layout, what is so and the sentence answer. */
    private static int[] everything(LeverFrame x) {
        int[] all = new int[400];
        int at = 0;
        for (int what = 0; what < 8; what++) {
            all[at++] = x.count(what);
        }
        for (int what = 0; what < 7; what++) {
            all[at++] = x.now(what);
            for (int t = 0; t < 5; t++) {
                all[at++] = Check.train(x, t, what);
            }
        }
        for (int s = 0; s < 12; s++) {
            for (int what = 0; what < 6; what++) {
                all[at++] = x.section(s, what);
            }
        }
        for (int r = 0; r < 10; r++) {
            for (int what = 1; what < 9; what++) {
                all[at++] = x.route(r, what);
            }
        }
        for (int p = 0; p < 6; p++) {
            all[at++] = x.points(p, 1);
        }
        all[at++] = x.said(-1);
        all[at++] = x.said(0);
        return all;
    }

    private static void imageKeptAnew() {
        Check.part("promise 44: kept in place k, once more");
        LeverFrame x = Check.laid(Check.JUNCTION);
        x.image(0);
        x.ticks(1);
        x.image(1);
        x.ticks(1);
        x.image(0);
        x.ticks(1);
        x.restore(1);
        Check.due("the second", x.now(0), 1);
        x.restore(0);
        Check.due("the first, as kept anew", x.now(0), 2);
        x.ticks(5);
        x.restore(0);
        Check.due("as often as one likes", x.now(0), 2);
        x.ticks(5);
        Check.due("what goes on leaves the image", x.restore(0) ? x.now(0) : -1, 2);
        Check.due("an image is no act", x.image(0) ? x.undo() : -5, -1);
    }

    private static void restorePlaces() {
        Check.part("promise 45: false: no such one, or nothing is kept there");
        LeverFrame x = Check.laid(Check.JUNCTION);
        Check.sentence(x, "in w");
        x.ticks(4);
        for (int no : new int[] {-1, 2, 3, Integer.MIN_VALUE, Integer.MAX_VALUE, 0, 1}) {
            Check.due("place " + no, x.restore(no), false);
            Check.due("all stays", x.now(0), 4);
            Check.due("the sentence stays", x.said(0), 0);
        }
        Check.due("can be undone yet", x.undo(), 0);
        x.image(1);
        Check.due("nothing in the first", x.restore(0), false);
        Check.due("kept in the second", x.restore(1), true);
    }

    private static void restoreLeaves() {
        Check.part("promise 45: the tape, and what other calls told last, stays");
        LeverFrame x = Check.laid(Check.JUNCTION);
        x.image(0);
        x.together();
        x.path(1, 0);
        x.fail(3, 0);
        x.pulls(1);
        Check.tape(x, 0, 0);
        x.fits();
        Check.book(x, "tick 9;", 0);
        x.tag(1);
        Check.layout(x, "hold 0;");
        Check.tape(x, "tick 3;");
        Check.due("restored", x.restore(0), true);
        Check.due("tape", x.count(8), 7);
        Check.due("those", x.those(), 1);
        Check.due("path", x.pathAt(0), 3);
        Check.due("pulls", x.pullsAt(0), 16);
        Check.due("fits", x.fitsAt(0), 0);
        Check.due("ask", x.ask(), 0);
        Check.due("told", x.told(2), 9);
        Check.due("tag", x.byteAt(0), 'b');
        Check.due("fault", x.fault(), 2);
        Check.due("the tape is the book", x.book(1), -1);
        Check.due("lived", x.now(0), 3);
    }

    private static void restoreNothingUndone() {
        Check.part("promise 45: nothing can be undone");
        LeverFrame x = Check.laid(Check.JUNCTION);
        x.ticks(1);
        x.ticks(1);
        x.image(0);
        x.ticks(1);
        Check.due("restored", x.restore(0), true);
        Check.due("neither what was done ahead of the image nor behind it", x.undo(), -1);
        Check.due("tick", x.now(0), 2);
        x.ticks(1);
        Check.due("what is done now can be", x.undo(), 0);
        Check.due("tick", x.now(0), 2);
    }

    private static void restoreAtTheEnds() {
        Check.part("promise 45: They are as kept: without a LAYOUT, at the last TICK, without a SENTENCE");
        LeverFrame x = new LeverFrame();
        x.image(0);
        Check.layout(x, Check.JUNCTION);
        Check.sentence(x, "out");
        Check.book(x, Check.times(16, "tick 60;") + "tick 40;", 1);
        x.image(1);
        Check.due("restored", x.restore(0), true);
        Check.due("no sections", x.count(0), 0);
        Check.due("no trains", Check.train(x, 0, 0), Check.THROWS);
        Check.due("hold", x.count(7), 3);
        Check.due("no sentence", x.said(-1), -1);
        Check.due("tick", x.now(0), 0);
        Check.due("restored", x.restore(1), true);
        Check.due("sections", x.count(0), 4);
        Check.due("tick", x.now(0), 1000);
        Check.due("no ticks are left", x.ticks(1), 0);
        Check.due("the sentence", x.said(-1), 0);
    }

    private static void counts() {
        Check.part("promise 46: NONE for another what");
        LeverFrame x = Check.laid(Check.FULL);
        int[] want = {12, 6, 16, 8, 10, 0, 5, 30, 0, -1};
        for (int what = 0; what < want.length; what++) {
            Check.due("count " + what, x.count(what), want[what]);
        }
        Check.due("below", x.count(-1), -1);
        for (int no : NEVER) {
            Check.due("another", x.count(no), -1);
        }
        Check.part("promise 46: 8 bytes of the tape");
        for (int i = 1; i <= 73; i++) {
            x.feed(0, 0, 0, 0, 0);
            Check.due("bytes", x.count(8), 20 * i);
        }
        x.end(1);
        Check.due("one", x.count(8), 1);
        x.end(0);
        Check.due("none", x.count(8), 0);
    }

    private static void manyCalls() {
        Check.part("An object is used for at most 512 calls after it has been made");
        LeverFrame x = new LeverFrame();
        for (int i = 1; i < 512; i++) {
            x.ticks(1);
        }
        Check.due("the 512th", x.now(0), 511);
        LeverFrame y = new LeverFrame();
        for (int i = 1; i < 512; i++) {
            y.image(i % 2);
        }
        Check.due("the 512th", y.restore(1), true);
    }
}
