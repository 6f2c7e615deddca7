/** Promises 40 to 46: books, sentences, images and counts. */
public final class BookTest {
    private static final int[] EDGES = {-2, Integer.MIN_VALUE, Integer.MAX_VALUE, 100};

    private BookTest() {
    }

    public static void main(String[] args) {
        judging();
        living();
        reasons();
        told();
        sentences();
        saying();
        joining();
        images();
        counts();
        Check.finish("BookTest");
    }

    private static void dueTold(LeverFrame x, int why, int good, int tick, int notFree) {
        Check.due("why", x.told(0), why);
        Check.due("lines that are not wrong", x.told(1), good);
        Check.due("the tick then", x.told(2), tick);
        Check.due("routes not free then", x.told(3), notFree);
    }

    private static void judging() {
        Check.part("promise 40");
        LeverFrame x = Check.laid(Check.JUNCTION);
        Check.due("judged", Check.book(x, "set rm;tick 2;", 0), -1);
        dueTold(x, 0, 2, 2, 1);
        Check.due("all stays", x.now(0) + x.now(2), 0);
        Check.due("wrong", Check.book(x, "tick 1;set rm;set rb;tick 9;", 0), 2);
        dueTold(x, 2, 2, 1, 1);
        Check.due("wrong at once", Check.book(x, "back rm;tick 9;", 1), 0);
        dueTold(x, 11, 0, 0, 0);
        Check.due("empty", Check.book(x, "", 1), -1);
        dueTold(x, 0, 0, 0, 0);
        for (int no : new int[] {-1, 2, Integer.MIN_VALUE, Integer.MAX_VALUE}) {
            Check.tape(x, "set rm;");
            Check.due("another lives", x.book(no), -1000);
            Check.due("the tape stays", x.count(8), 7);
        }
        Check.due("it is there yet", x.book(1), -1);
        Check.due("lived", x.now(2), 1);
    }

    private static void living() {
        LeverFrame x = Check.laid(Check.JUNCTION);
        Check.due("lived", Check.book(x, "set rm;tick 2;", 1), -1);
        Check.due("tick", x.now(0), 2);
        Check.due("ann in j", Check.train(x, 0, 0), 1);
        Check.due("lived as far", Check.book(x, "tick 1;fail w clear;fail w clear;tick 1;", 1), 2);
        Check.due("tick", x.now(0), 3);
        Check.due("fails", x.section(0, 3), 1);
        dueTold(x, 31, 2, 3, 1);
        Check.due("undone as one", x.undo(), 1);
        Check.due("tick", x.now(0), 2);
        Check.due("does not fail", x.section(0, 3), 0);
        Check.due("undone", x.undo(), 0);
        Check.due("tick", x.now(0), 0);
        Check.due("a fault at the end", Check.book(x, "tick 1;tick 99;", 1), -14);
        Check.due("nothing was lived", x.now(0), 0);
    }

    private static void dueWhy(LeverFrame x, String book, int line, int why) {
        Check.due(book, Check.book(x, book, 0), line);
        Check.due("why of " + book, x.told(0), why);
    }

    private static void reasons() {
        Check.part("promise 41");
        LeverFrame x = Check.laid(Check.JUNCTION + "route e ms;");
        dueWhy(x, "set rm;set rm;", 1, 1);
        dueWhy(x, "set rm;set um;", 1, 2);
        dueWhy(x, "set rb;", 0, 3);
        dueWhy(x, "set um;", 0, 4);
        dueWhy(x, "set e;", 0, 5);
        dueWhy(x, "back um;", 0, 11);
        dueWhy(x, "fail j full;throw p;", 1, 21);
        dueWhy(x, "set rm;throw p;", 1, 22);
        dueWhy(x, "fail j full;fail j clear;fail j clear;", 2, 31);
        dueWhy(x, "mend j;", 0, 41);
        for (int i = 0; i < 16; i++) {
            x.ticks(60);
        }
        dueWhy(x, "tick 40;", -1, 0);
        dueWhy(x, "tick 41;", 0, 51);
        dueWhy(x, "tick 39;tick 2;", 1, 51);
        Check.due("as far as it was not wrong", x.told(2), 999);
    }

    private static void told() {
        LeverFrame x = Check.laid(Check.JUNCTION);
        for (int what = 0; what < 4; what++) {
            Check.due("ahead of any", x.told(what), -1);
        }
        Check.book(x, "tick 0;", 0);
        Check.due("ahead of any without a fault", x.told(0), -1);
        Check.book(x, "tick 7;", 0);
        Check.due("tick", x.told(2), 7);
        Check.book(x, "tick 0;", 0);
        x.book(5);
        x.ticks(1);
        Check.layout(x, "hold 1;");
        Check.due("it stays", x.told(2), 7);
        Check.due("another what", x.told(4), -1);
        Check.due("another what", x.told(-1), -1);
        for (int no : EDGES) {
            Check.due("another what", x.told(no), -1);
        }
    }

    private static void sentences() {
        Check.part("promise 42");
        LeverFrame x = Check.laid(Check.JUNCTION);
        Check.due("one", Check.sentence(x, "out"), 1);
        Check.due("the tape is empty", x.count(8), 0);
        Check.due("each counts", Check.sentence(x, "not(out or crashed and not waiting)or in w and using rm or ticks<3"), 9);
        Check.due("fault", Check.sentence(x, "in w or in zz"), -12);
        Check.due("it stays", x.said(-1), 2);
        Check.due("words without blanks", Check.sentence(x, "number=0or in b"), -8);
        Check.due("signs without blanks", Check.sentence(x, "number=0 or(in b)"), 3);
    }

    private static int who(LeverFrame x, String text) {
        Check.sentence(x, text);
        int bits = 0;
        int many = x.said(-1);
        for (int k = 0; k < many; k++) {
            bits |= 1 << x.said(k);
        }
        Check.due("no more of " + text, x.said(many), -1);
        return bits;
    }

    private static void saying() {
        Check.part("promise 43");
        LeverFrame x = Check.laid(Check.JUNCTION);
        Check.due("there is no sentence", x.said(-1), -1);
        Check.due("there is no sentence", x.said(0), -1);
        Check.sentence(x, "number > 0");
        Check.due("bob", x.said(0), 1);
        Check.due("no more", x.said(1), -1);
        for (int no : EDGES) {
            Check.due("none such", x.said(no), -1);
        }
        Check.due("in w", who(x, "in w"), 1);
        Check.due("in m", who(x, "in m"), 0);
        x.set(0);
        x.ticks(2);
        Check.due("using rm", who(x, "using rm"), 1);
        Check.due("using rb", who(x, "using rb"), 0);
        Check.due("waiting", who(x, "waiting"), 2);
        Check.due("waited = 1", who(x, "waited = 1"), 2);
        Check.due("waited < 1", who(x, "waited < 1"), 1);
        Check.due("ticks = 0", who(x, "ticks = 0"), 1);
        Check.due("ticks > 1", who(x, "ticks > 1"), 2);
        Check.due("ticks < 2", who(x, "ticks < 2"), 1);
        Check.due("number = 1", who(x, "number = 1"), 2);
        Check.due("number < 1", who(x, "number < 1"), 1);
        x.ticks(8);
        Check.due("out", who(x, "out"), 1);
        Check.due("ticks of one out", who(x, "ticks = 0 and out"), 1);
        Check.due("out is in no section", who(x, "in w or in j or in m or in b"), 2);
        LeverFrame y = Check.laid("section a 1;section b 1;track a b;signal g b down;train t b down;train u a down;");
        y.ticks(1);
        Check.due("crashed", who(y, "crashed"), 3);
        Check.due("crashed ones do not wait", who(y, "waiting"), 0);
        LeverFrame none = new LeverFrame();
        Check.sentence(none, "not out");
        Check.due("no trains", none.said(-1), 0);
        Check.due("none such", none.said(0), -1);
    }

    private static void joining() {
        LeverFrame x = Check.laid("section a 1;section b 1;section c 1;section d 1;section e 1;"
                + "train p a up;train q b up;train r c up;train s d up;train t e up;");
        Check.due("all", who(x, "not out"), 31);
        Check.due("and binds closer than or", who(x, "in a or in b and in c"), 1);
        Check.due("whichever first", who(x, "in b and in c or in a"), 1);
        Check.due("brackets", who(x, "(in a or in b) and in b"), 2);
        Check.due("not binds closest", who(x, "not in a and number < 3"), 6);
        Check.due("not of a bracket", who(x, "not (in a or number > 2)"), 6);
        Check.due("not not", who(x, "not not number = 3"), 8);
        Check.due("a row of or", who(x, "in a or in c or in e"), 21);
        Check.due("a row of and", who(x, "not in a and not in c and not in e"), 10);
    }

    private static void images() {
        Check.part("promises 44, 45");
        LeverFrame x = Check.laid(Check.JUNCTION);
        for (int no : new int[] {-1, 2, Integer.MIN_VALUE, Integer.MAX_VALUE}) {
            Check.due("no such place", x.image(no), false);
            Check.due("no such place", x.restore(no), false);
        }
        Check.due("nothing is kept", x.restore(0), false);
        Check.due("nothing is kept", x.restore(1), false);
        x.set(0);
        x.fail(3, 0);
        x.ticks(2);
        Check.sentence(x, "using rm");
        Check.due("kept", x.image(1), true);
        Check.due("nothing in the other place", x.restore(0), false);
        Check.due("what failed leaves what can be undone", x.undo(), 2);
        Check.layout(x, "section a 1;hold 9;");
        Check.due("kept", x.image(0), true);
        x.ticks(5);
        Check.tape(x, "abc");
        x.together();
        Check.due("back", x.restore(1), true);
        Check.due("the tape stays", x.count(8), 3);
        Check.due("what was told stays", x.those(), 0);
        Check.due("sections", x.count(0), 4);
        Check.due("hold", x.count(7), 2);
        Check.due("tick", x.now(0), 2);
        Check.due("rm is used", x.route(0, 1), 2);
        Check.due("fails", x.section(3, 3), 1);
        Check.due("ann in j", Check.train(x, 0, 0), 1);
        Check.due("the sentence", x.said(0), 0);
        Check.due("nothing can be undone", x.undo(), -1);
        x.ticks(3);
        Check.dueText("names", Check.tag(x, 0), "ann in m");
        Check.due("once more", x.restore(1), true);
        Check.due("as kept", x.now(0), 2);
        Check.due("nothing can be undone", x.undo(), -1);
        Check.due("the other", x.restore(0), true);
        Check.due("no sentence", x.said(-1), -1);
        Check.due("hold", x.count(7), 9);
        Check.due("sections", x.count(0), 1);
        x.ticks(1);
        x.image(0);
        Check.due("an image leaves what can be undone", x.undo(), 0);
        x.restore(0);
        Check.due("kept anew", x.now(0), 1);
    }

    private static void counts() {
        Check.part("promise 46");
        LeverFrame x = Check.laid(Check.JUNCTION);
        int[] want = {4, 1, 3, 3, 4, 3, 2, 2, 0, -1, -1};
        for (int what = 0; what < want.length; what++) {
            Check.due("count " + what, x.count(what), want[what]);
        }
        x.feed(0, 0, 0, 0, 0);
        Check.due("bytes", x.count(8), 20);
        for (int no : EDGES) {
            Check.due("another what", x.count(no), -1);
        }
        Check.due("another what", x.count(-1), -1);
    }
}
