/** Promises 20 to 39: what is worked out of the tracks, the trains and draws. */
public final class CounselTest {
    private static final int[] EDGES = {-1, -2, Integer.MIN_VALUE, Integer.MAX_VALUE, 100};
    /** Five sections in a row, one signal down in each but the last. */
    private static final String ROW = "section a 1;section b 1;section c 1;section d 1;section e 1;"
            + "track a b;track b c;track c d;track d e;"
            + "signal ga a down;signal gb b down;signal gc c down;signal gd d down;";

    private CounselTest() {
    }

    public static void main(String[] args) {
        lacking();
        spare();
        pulls();
        pullsThatCanNot();
        pullsByWhoIsAhead();
        together();
        rounds();
        paths();
        pathsOfLikeLength();
        comes();
        meet();
        fits();
        asks();
        means();
        tags();
        drawn();
        odds();
        Check.finish("CounselTest");
    }

    private static void lacking() {
        Check.part("promises 20, 21");
        LeverFrame x = Check.laid(Check.JUNCTION);
        Check.due("rm ub, rb um", x.lacking(), 2);
        Check.due("first", x.lacks(0), 3);
        Check.due("second", x.lacks(1), 18);
        Check.due("no third", x.lacks(2), -1);
        for (int no : EDGES) {
            Check.due("none such", x.lacks(no), -1);
        }
        Check.layout(x, Check.JUNCTION + "lock rm ub;");
        Check.due("one less", x.lacking(), 1);
        Check.due("by what is now", x.lacks(0), 18);
        Check.layout(x, "section a 1;section b 1;section c 1;section d 1;points p b;track a b p normal;track b c;track d b p reverse;"
                + "signal g a down;signal h d down;signal i b down;route r g;over r b;route s h;over s b;route t i;over t c;"
                + "route u i;");
        // r and s share b; t shares nothing with them; t and u are of one signal.
        Check.due("one", x.lacking(), 1);
        Check.due("r s", x.lacks(0), 1);
        // By unlike needs of points alone: r leaves b one way, s enters c by the other lie.
        Check.layout(x, "section a 1;section b 1;section c 1;section d 1;points p a;track a b p normal;track d a p reverse;"
                + "track a c;signal g a down;signal h a up;route r g;over r b;route s h;over s d;");
        Check.due("by points", x.lacking(), 1);
        Check.due("conflict", x.route(0, 4), 2);
    }

    private static void spare() {
        Check.part("promise 22");
        LeverFrame x = Check.laid(Check.JUNCTION);
        Check.due("none", x.spare(), 0);
        Check.layout(x, ROW + "route r ga;over r b;route s gc;over s d;route t gd;over t e;lock r s;lock t r;");
        Check.due("both", x.spare(), 2);
        Check.due("none lacks", x.lacking(), 0);
        Check.layout(x, ROW + "route r ga;over r b;route s ga;lock r s;");
        Check.due("of one signal they conflict", x.spare(), 0);
    }

    private static void pulls() {
        Check.part("promises 23, 24");
        LeverFrame x = Check.laid(Check.JUNCTION);
        Check.due("ahead of any", x.pullsAt(0), -1);
        Check.due("can be set", x.pulls(0), 0);
        Check.due("nothing", x.pullsAt(0), -1);
        x.fail(3, 0);
        Check.due("rb: throw p", x.pulls(1), 1);
        Check.due("p", x.pullsAt(0), 16);
        Check.due("no more", x.pullsAt(1), -1);
        for (int no : EDGES) {
            Check.due("none such", x.pullsAt(no), -1);
        }
        x.set(0);
        Check.due("rm would be held, as ann is ahead of it", x.pulls(1), -1);
        // The same frame without ann: rm is free at once, bob is not ahead of it.
        LeverFrame z = Check.laid(Check.JUNCTION.replace("train ann w down;", ""));
        z.fail(3, 0);
        z.set(0);
        Check.due("rb: put rm back, throw p", z.pulls(1), 2);
        Check.due("rm first", z.pullsAt(0), 0);
        Check.due("p then", z.pullsAt(1), 16);
        Check.due("nothing is done", z.now(2), 1);
        // rm and ub are not locked, but rm needs the points that ub must have thrown.
        Check.due("ub", z.pulls(3), 2);
        Check.due("rm", z.pullsAt(0), 0);
        Check.due("p", z.pullsAt(1), 16);
        Check.due("um: locked with rm", z.pulls(2), 1);
        Check.due("rm alone", z.pullsAt(0), 0);
        Check.due("none for one that is set", z.pulls(0), -1);
        Check.due("the latest stays", z.pullsAt(0), 0);
        // By number: routes ahead of points.
        LeverFrame y = Check.laid("section a 1;section b 1;section c 1;section d 1;section e 1;points q b;points p c;"
                + "track a b q reverse;track b c;track c d p reverse;track e c p normal;track e b q normal;"
                + "signal g a down;signal h e down;route x h;over x c;route y h;over y b;route z g;over z b;over z c;over z d;"
                + "route v g;over v b;");
        y.set(0);
        Check.due("z", y.pulls(2), 3);
        Check.due("x", y.pullsAt(0), 0);
        Check.due("q", y.pullsAt(1), 16);
        Check.due("p", y.pullsAt(2), 17);
        Check.due("v", y.pulls(3), 1);
        Check.due("q", y.pullsAt(0), 16);
    }

    private static void pullsThatCanNot() {
        LeverFrame x = Check.laid(Check.JUNCTION);
        Check.due("no route", x.pulls(4), -1);
        for (int no : EDGES) {
            Check.due("no route", x.pulls(no), -1);
        }
        Check.due("full", x.pulls(2), -1);
        x.fail(3, 0);
        x.fail(1, 1);
        Check.due("its points can't be thrown", x.pulls(1), -1);
        LeverFrame first = Check.laid("section a 1;section b 1;section c 1;points p a;points q c;"
                + "track a b p reverse;track b c q reverse;signal g a down;route r g;over r b;over r c;");
        Check.due("two to be thrown", first.pulls(0), 2);
        first.fail(0, 1);
        Check.due("the first can't be", first.pulls(0), -1);
        x.mend(1);
        x.set(0);
        x.back(0);
        Check.due("held itself", x.pulls(0), -1);
        Check.due("another of its signal is held", x.pulls(1), -1);
        x.ticks(2);
        x.set(0);
        x.ticks(2);
        x.fail(0, 0);
        x.fail(1, 0);
        x.fail(2, 0);
        Check.due("rm is used", x.route(0, 1), 2);
        Check.due("locked with a used one", x.pulls(2), -1);
        Check.due("points needed by a used one", x.pulls(3), -1);
        Check.due("used itself", x.pulls(0), -1);
        LeverFrame none = Check.laid("section a 1;signal g a down;route r g;");
        Check.due("no sections", none.pulls(0), -1);
        Check.due("ahead of any that was not NONE", none.pullsAt(0), -1);
    }

    /** What would be held is no pull; what is free at once is one. */
    private static void pullsByWhoIsAhead() {
        Check.due("nobody in it", aheadOf("train x c down;"), 1);
        Check.due("one who goes that way", aheadOf("train x a down;"), -1);
        Check.due("one who goes the other way", aheadOf("train x a up;"), 1);
        LeverFrame circuit = Check.laid(aheadText("train x a down;"));
        circuit.set(0);
        circuit.fail(0, 0);
        Check.due("it shows clear, but the train is there", circuit.pulls(1), -1);
        circuit.mend(0);
        Check.due("put back", circuit.back(0), 0);
        Check.due("held", circuit.pulls(1), -1);
        Check.due("held to the end", circuit.ticks(3), 3);
        Check.due("nothing to pull then", circuit.pulls(1), 0);
        // Two that met in a are crashed: the route of its signal is free at once.
        LeverFrame met = Check.laid("section z 2;section a 9;section b 1;section c 1;section d 1;track z a;track a b;"
                + "track c d;signal g a down;signal h c down;route r g;over r b;route s h;over s d;lock r s;"
                + "train x z down;train y a down;");
        met.set(0);
        Check.due("not crashed yet", met.pulls(1), -1);
        met.ticks(2);
        Check.due("both crashed", met.now(5), 3);
        Check.due("free at once by a crashed one", met.pulls(1), 1);
        Check.due("r", met.pullsAt(0), 0);
        // A route that is no pull may be held without harm.
        LeverFrame other = Check.laid(Check.JUNCTION.replace("train bob b up;", "train bob b up;section k 1;section l 1;"
                + "track k l;signal ks k down;route kl ks;over kl l;"));
        other.set(0);
        Check.due("no matter for one that has nothing with it", other.pulls(4), 0);
    }

    private static String aheadText(String train) {
        return "section a 9;section b 1;section c 9;section d 1;track a b;track c d;signal g a down;signal h c down;"
                + "route r g;over r b;route s h;over s d;lock r s;" + train;
    }

    private static int aheadOf(String train) {
        LeverFrame x = Check.laid(aheadText(train));
        x.set(0);
        return x.pulls(1);
    }

    private static void together() {
        Check.part("promises 25, 26");
        LeverFrame x = new LeverFrame();
        Check.due("ahead of any", x.those(), -1);
        Check.due("none", x.together(), 0);
        Check.due("none", x.those(), 0);
        Check.layout(x, Check.JUNCTION);
        Check.due("those stay", x.those(), 0);
        Check.due("one", x.together(), 1);
        Check.due("rm", x.those(), 1);
        Check.layout(x, ROW + "route r ga;over r b;over r c;over r d;route s ga;over s b;route t gb;over t c;route u gd;over u e;"
                + "route v gc;over v d;");
        Check.due("s t u v", x.together(), 4);
        Check.due("s t u v", x.those(), 30);
        Check.layout(x, ROW + "route r ga;over r b;route s ga;over s b;route t gc;route u gc;");
        Check.due("of like ones the least", x.together(), 2);
        Check.due("r t", x.those(), 5);
    }

    private static void rounds() {
        Check.part("promise 27");
        LeverFrame x = new LeverFrame();
        Check.due("none", x.rounds(), 0);
        Check.layout(x, Check.JUNCTION);
        Check.due("one each", x.rounds(), 4);
        Check.layout(x, ROW + "route r ga;over r b;route s gb;over s c;route t gc;over t d;route u gd;over u e;");
        Check.due("all at once", x.rounds(), 1);
        // A ring of five that conflict with their neighbours: three rounds, though two at most are together.
        Check.layout(x, "section a 1;section b 1;section c 1;section d 1;section e 1;section f 1;section g 1;"
                + "track f a;track a b;track b c;track c d;track d e;track e g;track g f;"
                + "signal sf f down;signal sa a down;signal sb b down;signal sc c down;signal sd d down;"
                + "route ra sf;over ra a;over ra b;route rb sa;over rb b;over rb c;route rc sb;over rc c;over rc d;"
                + "route rd sc;over rd d;over rd e;route re sd;over re e;over re g;over re f;over re a;");
        Check.due("together", x.together(), 2);
        Check.due("three", x.rounds(), 3);
        Check.layout(x, "section s 1;signal g s down;" + Check.times(10, "route r# g;"));
        Check.due("ten", x.rounds(), 10);
    }

    private static void paths() {
        Check.part("promises 28, 29");
        LeverFrame x = Check.laid(ROW + "route r ga;over r b;route s ga;over s b;over s c;route t gb;over t c;route u gc;over u d;"
                + "over u e;route v gd;route w gb;train k a down;");
        Check.due("ahead of any", x.pathAt(0), -1);
        Check.due("there", x.path(0, 0), 0);
        Check.due("nothing", x.pathAt(0), -1);
        Check.due("to b", x.path(0, 1), 1);
        Check.due("r is less than s", x.pathAt(0), 0);
        Check.due("to c", x.path(0, 2), 1);
        Check.due("s", x.pathAt(0), 1);
        Check.due("to d, on the way of u", x.path(0, 3), 2);
        Check.due("s", x.pathAt(0), 1);
        Check.due("u", x.pathAt(1), 3);
        Check.due("no more", x.pathAt(2), -1);
        for (int no : EDGES) {
            Check.due("none such", x.pathAt(no), -1);
            Check.due("no train", x.path(no, 0), -1);
            Check.due("no section", x.path(0, no), -1);
        }
        Check.due("no section", x.path(0, 5), -1);
        Check.due("the latest stays", x.pathAt(1), 3);
        Check.due("there", x.path(0, 0), 0);
        Check.due("none of the one before", x.pathAt(0), -1);
        // Locks, points, trains, failures are no matter.
        x.fail(1, 1);
        x.fail(2, 1);
        Check.due("to e", x.path(0, 4), 2);
        LeverFrame y = Check.laid(Check.JUNCTION);
        Check.due("bob to w", y.path(1, 0), 1);
        Check.due("ub", y.pathAt(0), 3);
        Check.due("bob not to m", y.path(1, 2), -1);
        y.set(0);
        y.ticks(10);
        Check.due("ann is out", y.path(0, 0), -1);
        LeverFrame no = Check.laid("section a 1;section b 1;track a b;signal g a up;train t a down;");
        Check.due("no signal for its way", no.path(0, 1), -1);
    }

    private static void pathsOfLikeLength() {
        // From a over b or over c to d, where the first row by number begins with the lesser route.
        String lay = "section a 1;section b 1;section c 1;section d 1;track a b;track a c;track b d;track c d;"
                + "signal ga a down;signal gb b down;signal gc c down;";
        LeverFrame x = Check.laid(lay + "route bd gb;over bd d;route ac ga;over ac c;route ab ga;over ab b;route cd gc;over cd d;"
                + "train t a down;");
        Check.due("to d", x.path(0, 3), 2);
        Check.due("ac", x.pathAt(0), 1);
        Check.due("cd", x.pathAt(1), 3);
        // A ring: the fewest go the other way round, and a train that is crashed has its path, too.
        LeverFrame y = Check.laid("section a 9;section b 9;section c 9;section d 9;track a b;track b c;track c d;track d a;"
                + "signal ga a down;signal gb b down;signal gc c down;signal gd d down;"
                + "route rd gd;over rd a;route rc gc;over rc d;route rb gb;over rb c;route ra ga;over ra b;train t b down;");
        Check.due("to a", y.path(0, 0), 3);
        Check.due("rb", y.pathAt(0), 2);
        Check.due("rc", y.pathAt(1), 1);
        Check.due("rd", y.pathAt(2), 0);
        LeverFrame z = Check.laid("section a 1;section b 1;section c 1;track a b;track b c;signal g b down;route r g;over r c;"
                + "train t a down;train u b down;");
        z.ticks(1);
        Check.due("crashed", Check.train(z, 0, 3), 1);
        Check.due("its path", z.path(0, 2), 1);
    }

    private static void comes() {
        Check.part("promise 30");
        LeverFrame x = Check.laid(Check.JUNCTION);
        Check.due("there", x.comes(0, 0), 0);
        Check.due("no route is set", x.comes(0, 1), -1);
        x.set(0);
        Check.due("to j", x.comes(0, 1), 2);
        Check.due("to m", x.comes(0, 2), 3);
        Check.due("not to b", x.comes(0, 3), -1);
        Check.due("nothing goes by", x.now(0), 0);
        for (int no : EDGES) {
            Check.due("no train", x.comes(no, 0), -1);
            Check.due("no section", x.comes(0, no), -1);
        }
        x.ticks(9);
        Check.due("ann is out", x.comes(0, 0), -1);
        // Ten sections of 30 in a row: the last is reached behind 300 ticks, the one behind it is not.
        StringBuilder row = new StringBuilder(Check.times(12, "section s# 30;"));
        for (int i = 0; i < 11; i++) {
            row.append("track s").append((char) ('a' + i)).append(" s").append((char) ('b' + i)).append(';');
        }
        LeverFrame y = Check.laid(row + "train t sa down;");
        Check.due("300", y.comes(0, 10), 300);
        Check.due("330", y.comes(0, 11), -1);
        LeverFrame z = Check.laid(row.toString().replace("section sk 30", "section sk 1") + "train t sa down;");
        Check.due("301", z.comes(0, 11), -1);
        z.ticks(1);
        Check.due("300 from the next tick on", z.comes(0, 11), 300);
    }

    private static void meet() {
        Check.part("promise 31");
        LeverFrame x = Check.laid("section a 2;section b 5;section c 4;track a b;track b c;train t a down;train u c up;");
        Check.due("behind four", x.meet(), 4);
        x.ticks(3);
        Check.due("behind one", x.meet(), 1);
        x.ticks(1);
        Check.due("crashed now", x.now(5), 3);
        Check.due("nobody more", x.meet(), -1);
        LeverFrame y = Check.laid("section a 30;section b 1;section c 1;track a b;track b c;track c a;train t a down;train u b down;");
        Check.due("u comes round to a", y.meet(), 2);
        // 300 is in, 301 is not.
        StringBuilder row = new StringBuilder(Check.times(12, "section s# 30;"));
        for (int i = 0; i < 11; i++) {
            row.append("track s").append((char) ('a' + i)).append(" s").append((char) ('b' + i)).append(';');
        }
        String end = "signal g sk down;train u sk down;train t sa down;";
        Check.due("behind 300", Check.laid(row + end).meet(), 300);
        LeverFrame late = Check.laid(row.toString().replace("section sk 30", "section sk 1")
                + "signal g sl down;train u sl down;train t sa down;");
        Check.due("behind 301", late.meet(), -1);
        late.ticks(1);
        Check.due("behind 300", late.meet(), 300);
        Check.due("behind 330", Check.laid(row + "signal g sl down;train u sl down;train t sa down;").meet(), -1);
    }

    private static void fits() {
        Check.part("promises 32, 33");
        LeverFrame x = Check.laid(Check.JUNCTION);
        Check.due("ahead of any", x.fitsAt(0), -1);
        Check.due("ahead of any", x.ask(), -1);
        Check.due("an empty tape", x.fits(), -1);
        Check.tape(x, 0, 0);
        Check.due("w clear", x.fits(), 1);
        Check.due("w fails clear", x.fitsAt(0), 0);
        Check.due("the tape is empty", x.count(8), 0);
        Check.tape(x, 2, 1);
        Check.due("m full", x.fits(), 1);
        Check.due("m fails full", x.fitsAt(0), 5);
        // What fails now is no matter.
        x.fail(0, 0);
        Check.tape(x, 0, 1, 1, 0);
        Check.due("w full, j clear", x.fits(), 7);
        int[] all = {1, 2, 4, 5, 6, 7, 8};
        for (int k = 0; k < 7; k++) {
            Check.due("failure " + k, x.fitsAt(k), all[k]);
        }
        Check.due("no more", x.fitsAt(7), -1);
        for (int no : EDGES) {
            Check.due("none such", x.fitsAt(no), -1);
        }
        Check.tape(x, 0, 0, 1, 1);
        Check.due("two failures at once", x.fits(), 0);
        Check.due("the latest above 0 stays", x.fitsAt(6), 8);
        Check.tape(x, 0, 1, 0, 0);
        Check.due("both at once", x.fits(), 0);
        Check.tape(x, 4, 0);
        Check.due("no such section", x.fits(), -1);
        Check.tape(x, 0, 2);
        Check.due("neither 0 nor 1", x.fits(), -1);
        Check.tape(x, 255, 0);
        Check.due("255 is no section", x.fits(), -1);
        Check.due("the tape is empty", x.count(8), 0);
        Check.tape(x, 0, 1, 0);
        Check.due("half a pair", x.fits(), -1);
        Check.tape(x, 0, 1, 0, 1, 0, 1, 0, 1, 0, 1, 0, 1);
        Check.due("six", x.fits(), 8);
        Check.tape(x, 0, 1, 0, 1, 0, 1, 0, 1, 0, 1, 0, 1, 0, 1);
        Check.due("seven", x.fits(), -1);
        Check.due("the latest stays", x.fitsAt(7), 8);
        Check.due("no eighth", x.fitsAt(8), -1);
    }

    private static void asks() {
        Check.part("promise 34");
        LeverFrame x = Check.laid(Check.JUNCTION);
        Check.tape(x, 0, 1, 1, 0);
        x.fits();
        Check.due("m: six or one", x.ask(), 2);
        Check.tape(x, 0, 0);
        x.fits();
        Check.due("of like ones the first", x.ask(), 0);
        Check.tape(x, 1, 0);
        x.fits();
        // 0, 1, 2, 4, 5, 6, 7, 8 fit: w shows clear by one of them.
        Check.due("w", x.ask(), 0);
        x.set(0);
        x.ticks(2);
        Check.layout(x, "section z 1;");
        Check.due("by where trains were then", x.ask(), 0);
        Check.due("by the layout then", x.fitsAt(7), 8);
        Check.tape(x, 0, 2);
        x.fits();
        Check.due("the latest above 0", x.ask(), 0);
        Check.tape(x, 0, 0);
        Check.due("z clear", x.fits(), 2);
        Check.due("z", x.ask(), 0);
    }

    private static void means() {
        Check.part("promise 35");
        LeverFrame x = new LeverFrame();
        Check.due("no trains", Check.mean(x, 0), Check.THROWS);
        Check.layout(x, Check.JUNCTION);
        Check.due("0", Check.mean(x, 0), 0);
        Check.due("of 1", Check.mean(x, 1), 1);
        x.set(0);
        x.ticks(4);
        Check.due("3", Check.mean(x, 0), 3);
        Check.due("of 2", Check.mean(x, 1), 2);
        x.ticks(1);
        Check.due("4 of 2: 2", Check.mean(x, 0), 2);
        Check.due("of 1", Check.mean(x, 1), 1);
        Check.due("no such", Check.mean(x, 2), Check.THROWS);
        for (int no : EDGES) {
            Check.due("no such", Check.mean(x, no), Check.THROWS);
        }
        LeverFrame y = Check.laid("section a 1;section b 1;section c 1;section d 1;signal g a up;"
                + "train t a up;train u b up;train v c up;train w d up;");
        y.ticks(6);
        Check.due("6 of 4: 3", Check.mean(y, 0), 3);
        Check.due("of 2", Check.mean(y, 1), 2);
    }

    private static void tags() {
        Check.part("promises 36, 37");
        LeverFrame x = Check.laid(Check.JUNCTION);
        Check.due("ahead of any", x.byteAt(0), -1);
        Check.dueText("ann", Check.tag(x, 0), "ann in w");
        Check.due("none behind", x.byteAt(8), -1);
        for (int no : EDGES) {
            Check.due("none such", x.byteAt(no), -1);
            Check.due("no train", x.tag(no), -1);
        }
        Check.due("no train", x.tag(2), -1);
        Check.due("the latest stays", x.byteAt(0), 'a');
        x.set(0);
        x.ticks(2);
        Check.dueText("bob", Check.tag(x, 1), "bob in b waits");
        x.ticks(5);
        Check.dueText("ann", Check.tag(x, 0), "ann out");
        x.layout();
        Check.due("a new layout leaves it", x.byteAt(6), 't');
        LeverFrame y = Check.laid("section aaaaaaz 1;section zzzzzza 1;track zzzzzza aaaaaaz;signal g aaaaaaz down;"
                + "train abcdefg aaaaaaz down;train tuvwxyz zzzzzza down;");
        y.ticks(1);
        Check.dueText("the longest", Check.tag(y, 0), "abcdefg in aaaaaaz crashed");
        Check.dueText("the other", Check.tag(y, 1), "tuvwxyz in aaaaaaz crashed");
    }

    private static int draw(int[] x, int n) {
        x[0] = x[0] * 1103515245 + 12345;
        return (x[0] >>> 8) % n;
    }

    private static void drawn() {
        Check.part("promise 38");
        LeverFrame x = Check.laid(Check.JUNCTION);
        Check.due("none", x.drawn(0, 1), -1);
        Check.due("too many", x.drawn(61, 1), -1);
        Check.due("below", x.drawn(-1, 1), -1);
        // The same by hand: each draw, then the tick.
        for (int seed = -3; seed < 30; seed++) {
            LeverFrame one = Check.laid(Check.JUNCTION);
            LeverFrame other = Check.laid(Check.JUNCTION);
            int[] at = {seed * 77777777};
            Check.due("sixty", one.drawn(60, at[0]), 60);
            for (int i = 0; i < 60; i++) {
                int lot = draw(at, 4);
                if (lot < 2) {
                    int r = draw(at, 4);
                    if (other.route(r, 1) == 1) {
                        other.back(r);
                    } else {
                        other.set(r);
                    }
                } else if (lot == 2) {
                    other.turn(draw(at, 1));
                }
                other.ticks(1);
            }
            for (int what = 0; what < 7; what++) {
                Check.due("now " + what, one.now(what), other.now(what));
                Check.due("ann " + what, Check.train(one, 0, what), Check.train(other, 0, what));
            }
        }
        LeverFrame none = new LeverFrame();
        Check.due("nothing to draw", none.drawn(7, 3), 7);
        Check.due("tick", none.now(0), 7);
    }

    private static void odds() {
        Check.part("promise 39");
        LeverFrame x = Check.laid("section a 1;section b 1;section c 1;track a b;track c b;signal g a down;signal h c down;"
                + "signal i b down;route r g;over r b;route s h;over s b;train t a down;train u c down;");
        Check.due("none", x.odds(0, 1), -1);
        Check.due("too many", x.odds(31, 1), -1);
        int hits = 0;
        for (int seed = Integer.MAX_VALUE - 14; seed != Integer.MIN_VALUE + 15; seed++) {
            LeverFrame one = Check.laid("section a 1;section b 1;section c 1;track a b;track c b;signal g a down;signal h c down;"
                    + "signal i b down;route r g;over r b;route s h;over s b;train t a down;train u c down;");
            one.drawn(40, seed);
            hits += one.now(6) > 0 ? 1 : 0;
        }
        Check.due("of thirty", x.odds(30, Integer.MAX_VALUE - 14), hits);
        Check.due("nothing goes by", x.now(0), 0);
        Check.due("nothing to undo", x.undo(), -1);
        x.set(0);
        x.set(1);
        x.ticks(1);
        Check.due("met already", x.now(6), 1);
        Check.due("none from now on", x.odds(30, 1), 0);
        LeverFrame sure = Check.laid("section a 2;section b 5;section c 2;track a b;track b c;train t a down;train u c up;");
        Check.due("all", sure.odds(30, 9), 30);
        LeverFrame late = Check.laid("section a 30;section b 11;section c 1;track a b;track b c;signal g c down;"
                + "train u c down;train t a down;");
        Check.due("at the 41st tick", late.odds(30, 9), 0);
        late.ticks(1);
        Check.due("at the 40th tick", late.odds(30, 9), 30);
    }
}
