/**
 * The edges of what is worked out: for each sentence about conflicts, pulls, paths, forecasts,
 * failures, means, tags and draws, and of promises 20 to 39.
 */
public final class EdgeCounselTest {
    private static final int[] NEVER = {-1, -2, Integer.MIN_VALUE, Integer.MAX_VALUE, 16, 31, 32, 64, 256};
    /** Ten routes of one signal: each pair conflicts, whatever else they have. */
    private static final String TEN = "section s 1;signal g s down;" + Check.times(10, "route r# g;");

    private EdgeCounselTest() {
    }

    public static void main(String[] args) {
        conflicts();
        lackingNone();
        lackingMost();
        lacksNoneSuch();
        spareNoneAndAll();
        pullsNothing();
        pullsMost();
        pullsCanNot();
        pullsByPoints();
        pullsOfNoSuch();
        pullsOfTheLatest();
        togetherNone();
        togetherAll();
        togetherLeast();
        roundsNone();
        roundsMost();
        pathThere();
        pathLongest();
        pathByNone();
        pathWithoutSections();
        pathLeast();
        pathOfTheLatest();
        comesThere();
        comesIn300();
        comesBehind1000();
        meetIn300();
        meetNotNow();
        fitsPairs();
        fitsBytes();
        fitsNone();
        fitsLast();
        fitsOfTheLatest();
        askLeast();
        askOfTheLatest();
        meanLeastTerms();
        meanThrows();
        tagShortest();
        tagNoneSuch();
        drawnAsTold();
        drawnWraps();
        drawnNoDraw();
        drawnLast();
        oddsAsTold();
        oddsSeeds();
        oddsForty();
        Check.finish("EdgeCounselTest");
    }

    /** Sections a, b, .. of such lengths, in a row of tracks down. */
    private static String row(int... lengths) {
        StringBuilder text = new StringBuilder();
        for (int i = 0; i < lengths.length; i++) {
            text.append("section ").append((char) ('a' + i)).append(' ').append(lengths[i]).append(';');
        }
        for (int i = 0; i + 1 < lengths.length; i++) {
            text.append("track ").append((char) ('a' + i)).append(' ').append((char) ('b' + i)).append(';');
        }
        return text.toString();
    }

    private static void runTo(LeverFrame x, int tick) {
        for (int i = 0; i < 20 && x.now(0) < tick; i++) {
            x.ticks(Math.min(60, tick - x.now(0)));
        }
        Check.due("the tick", x.now(0), tick);
    }

    private static void conflicts() {
        Check.part("Two ROUTES CONFLICT, if they are of one SIGNAL, have a SECTION both, or NEED some POINTS unlike ways");
        String text = "section a 1;section b 1;section c 1;section d 1;section e 1;points p b;points q d;"
                + "track a b p normal;track c b p reverse;track b d;track d e q reverse;";
        LeverFrame x = Check.laid(text + "signal g a down;signal h b up;signal k d down;signal l e up;"
                + "route r g;over r b;route s g;route t h;over t c;route u h;over u a;route v k;over v e;route w l;over w d;");
        Check.due("r: s of its signal, t by points", x.route(0, 4), 2 + 4);
        Check.due("s: r of its signal, though it has nothing", x.route(1, 4), 1);
        Check.due("t: r by points, u of its signal", x.route(2, 4), 1 + 8);
        Check.due("u: t; needs p as r does", x.route(3, 4), 4);
        Check.due("v: needs q as w does, shares nothing", x.route(4, 4), 0);
        Check.due("w", x.route(5, 4), 0);
        Check.due("a signal's section is none of the route's", x.route(4, 4) + x.route(5, 4), 0);
        LeverFrame y = Check.laid(row(1, 1, 1) + "signal g a down;signal h b down;route r g;over r b;over r c;route s h;over s c;");
        Check.due("the last section both", y.route(0, 4), 2);
        Check.due("the other way round", y.route(1, 4), 1);
    }

    private static void lackingNone() {
        Check.part("LACKING: how many pairs CONFLICT, and are not LOCKED, nor of one SIGNAL");
        Check.due("no routes", new LeverFrame().lacking(), 0);
        Check.due("one route", Check.laid("section s 1;signal g s down;route r g;").lacking(), 0);
        Check.due("all of one signal", Check.laid(TEN).lacking(), 0);
        String two = row(1, 1, 1) + "signal g a down;signal h b down;route r g;over r b;over r c;route s h;over s c;";
        Check.due("one", Check.laid(two).lacking(), 1);
        Check.due("locked", Check.laid(two + "lock r s;").lacking(), 0);
        Check.due("locked the other way", Check.laid(two + "lock s r;").lacking(), 0);
        LeverFrame x = Check.laid(two);
        x.set(0);
        x.fail(1, 1);
        Check.due("what is so is no matter", x.lacking(), 1);
    }

    private static void lackingMost() {
        Check.part("promise 21: by the lesser ROUTE, then the greater one: 16 by the lesser one and the greater one");
        LeverFrame x = Check.laid(Check.FULL);
        // ra rj, rg.. of ri and rj: rh ri, ri rj; rg ri and rh rj are of one signal.
        Check.due("three", x.lacking(), 3);
        Check.due("ra rj", x.lacks(0), 9);
        Check.due("rh ri", x.lacks(1), 16 * 7 + 8);
        Check.due("the last two", x.lacks(2), 16 * 8 + 9);
        Check.due("no more", x.lacks(3), -1);
        // Ten routes that all end in one section, of eight signals: all pairs but two.
        StringBuilder text = new StringBuilder(Check.times(9, "section s# 1;"));
        for (char c = 'a'; c < 'i'; c++) {
            text.append("track s").append(c).append(" si;signal g").append(c).append(" s").append(c).append(" down;");
        }
        for (int r = 0; r < 10; r++) {
            char c = (char) ('a' + r);
            text.append("route r").append(c).append(" g").append((char) ('a' + r % 8)).append(";over r").append(c).append(" si;");
        }
        LeverFrame y = Check.laid(text.toString());
        Check.due("all but two", y.lacking(), 43);
        int k = 0;
        for (int a = 0; a < 10; a++) {
            for (int b = a + 1; b < 10; b++) {
                if (b - a != 8) {
                    Check.due("pair " + k, y.lacks(k), 16 * a + b);
                    k++;
                }
            }
        }
        Check.due("no more", y.lacks(43), -1);
    }

    private static void lacksNoneSuch() {
        Check.part("promise 21: NONE: none such");
        LeverFrame x = Check.laid(Check.JUNCTION);
        Check.due("the last", x.lacks(1), 18);
        Check.due("one more", x.lacks(2), -1);
        for (int no : NEVER) {
            Check.due("none such", x.lacks(no), -1);
        }
        Check.due("none at all", new LeverFrame().lacks(0), -1);
        Check.part("promise 21: The k-th of them now");
        Check.layout(x, Check.JUNCTION + "lock rm ub;lock rb um;");
        Check.due("none now", x.lacks(0), -1);
    }

    private static void spareNoneAndAll() {
        Check.part("SPARE: how many are LOCKED that do not CONFLICT");
        Check.due("no routes", new LeverFrame().spare(), 0);
        Check.due("no locks", Check.laid(Check.FULL).spare(), 0);
        // Routes of eight signals in a row of nine: none conflict, all 28 pairs are locked.
        StringBuilder text = new StringBuilder(row(1, 1, 1, 1, 1, 1, 1, 1, 1));
        for (char c = 'a'; c < 'i'; c++) {
            text.append("signal g").append(c).append(' ').append(c).append(" down;route r").append(c).append(" g").append(c)
                    .append(";over r").append(c).append(' ').append((char) (c + 1)).append(';');
        }
        for (char a = 'a'; a < 'i'; a++) {
            for (char b = 'a'; b < a; b++) {
                text.append("lock r").append(a).append(" r").append(b).append(';');
            }
        }
        LeverFrame x = Check.laid(text.toString());
        Check.due("all", x.spare(), 28);
        Check.due("none lacks", x.lacking(), 0);
        LeverFrame y = Check.laid(TEN + "lock ra rb;lock rc rd;");
        Check.due("of one signal they conflict", y.spare(), 0);
    }

    private static void pullsNothing() {
        Check.part("promise 23: how many (0: it can be SET)");
        LeverFrame x = Check.laid(Check.FULL);
        Check.due("can be set", x.pulls(0), 0);
        Check.due("nothing", x.pullsAt(0), -1);
        Check.due("so it can", x.set(0), 0);
        Check.due("not free itself", x.pulls(0), -1);
    }

    private static void pullsMost() {
        Check.part("PULLS: the fewest ROUTES to be put BACK and POINTS to be THROWN: ROUTES by number, then POINTS by number");
        LeverFrame x = Check.laid(Check.FULL.replace("train te h down;", ""));
        x.turn(5);
        Check.due("rj", x.set(9), 0);
        Check.due("another of its signal, the highest route", x.pulls(7), 1);
        Check.due("rj", x.pullsAt(0), 9);
        x.back(9);
        x.turn(5);
        Check.due("the highest points", x.pulls(9), 1);
        Check.due("r", x.pullsAt(0), 21);
        x.set(7);
        Check.due("both", x.pulls(9), 2);
        Check.due("rh", x.pullsAt(0), 7);
        Check.due("r", x.pullsAt(1), 21);
        Check.due("no more", x.pullsAt(2), -1);
        // A route over six tracks, the points of each to be thrown, and four routes locked with it.
        StringBuilder text = new StringBuilder("section a 1;section u 1;section v 1;section w 1;section x 1;");
        for (char c = 'a'; c < 'g'; c++) {
            char next = (char) (c + 1);
            text.append("section ").append(next).append(" 1;points p").append(c).append(' ').append(c).append(";track ")
                    .append(c).append(' ').append(next).append(" p").append(c).append(" reverse;");
        }
        text.append("signal ga a down;route ra ga;over ra b;over ra c;over ra d;over ra e;over ra f;over ra g;");
        for (char c = 'u'; c < 'y'; c++) {
            text.append("track ").append(c).append(" a;signal g").append(c).append(' ').append(c).append(" down;route r").append(c)
                    .append(" g").append(c).append(";over r").append(c).append(" a;lock ra r").append(c).append(';');
        }
        LeverFrame y = Check.laid(text.toString());
        for (int r = 1; r <= 4; r++) {
            Check.due("set", y.set(r), 0);
        }
        Check.due("four and six", y.pulls(0), 10);
        for (int k = 0; k < 10; k++) {
            Check.due("pull " + k, y.pullsAt(k), k < 4 ? k + 1 : 16 + k - 4);
        }
        Check.due("no more", y.pullsAt(10), -1);
        // Done as told, it can be set then, and not ahead of the last.
        for (int k = 0; k < 10; k++) {
            Check.due("not yet", y.set(0) > 0, true);
            int pull = y.pullsAt(k);
            Check.due("done", pull < 16 ? y.back(pull) : y.turn(pull - 16), 0);
        }
        Check.due("now", y.set(0), 0);
    }

    private static void pullsCanNot() {
        Check.part("promise 23: NONE: it can not, by no such ones (so, too, if it is not FREE itself)");
        String text = "section a 9;section b 1;section c 9;section d 1;points p b;points k d;track a b p reverse;track c d;"
                + "signal g a down;signal h c down;route r g;over r b;route s h;over s d;lock r s;route n g;";
        LeverFrame x = Check.laid(text);
        Check.due("throw p", x.pulls(0), 1);
        x.fail(1, 1);
        Check.due("its section shows full, p's too", x.pulls(0), -1);
        x.mend(1);
        Check.due("without sections", x.pulls(2), -1);
        x.set(1);
        Check.due("s and p", x.pulls(0), 2);
        Check.due("set itself", x.pulls(1), -1);
        LeverFrame held = Check.laid(text + "train t c down;");
        held.set(1);
        Check.due("s would be held", held.pulls(0), -1);
        held.back(1);
        Check.due("s is held", held.pulls(0), -1);
        Check.due("held itself", held.pulls(1), -1);
        held.ticks(2);
        Check.due("s is held yet", held.pulls(0), -1);
        held.ticks(1);
        Check.due("free: p alone", held.pulls(0), 1);
        held.set(1);
        held.ticks(6);
        Check.due("t in d", Check.train(held, 0, 0), 3);
        Check.due("s is used", held.pulls(0), -1);
        Check.due("used itself", held.pulls(1), -1);
        held.ticks(1);
        Check.due("t is out: p alone", held.pulls(0), 1);
    }

    private static void pullsByPoints() {
        Check.part("PULLS: POINTS to be THROWN that a ROUTE which is SET NEEDS, or whose SECTION SHOWS full");
        // Up from a to b and up from c to b; n keeps p normal, w keeps it reverse; z has nothing with them.
        String text = "section a 9;section b 9;section c 9;section d 9;section e 9;section f 9;points p c;points q b;"
                + "track a b q reverse;track b c p reverse;track c d p normal;track e f;"
                + "signal g c down;signal h a down;signal k e down;signal m b down;"
                + "route n g;over n d;route r h;over r b;over r c;route z k;over z f;route w m;over w c;";
        LeverFrame x = Check.laid(text);
        Check.due("n", x.set(0), 0);
        Check.due("z", x.set(2), 0);
        Check.due("n goes back, p and q are thrown", x.pulls(1), 3);
        Check.due("n, the first route", x.pullsAt(0), 0);
        Check.due("p", x.pullsAt(1), 16);
        Check.due("q", x.pullsAt(2), 17);
        Check.due("z stays", x.pullsAt(3), -1);
        x.fail(1, 1);
        Check.due("q can't be thrown, b shows full", x.pulls(1), -1);
        LeverFrame reverse = Check.laid(text);
        reverse.turn(0);
        Check.due("w", reverse.set(3), 0);
        Check.due("w goes back, p is thrown", reverse.pulls(0), 2);
        Check.due("w", reverse.pullsAt(0), 3);
        Check.due("p", reverse.pullsAt(1), 16);
        LeverFrame held = Check.laid(text + "train t c down;");
        held.fail(2, 0);
        Check.due("n", held.set(0), 0);
        Check.due("n, the first route, would be held", held.pulls(1), -1);
        LeverFrame first = Check.laid("section a 1;section b 1;section c 1;points p a;points q c;track a b p reverse;track b c q reverse;"
                + "signal g a down;route r g;over r b;over r c;");
        Check.due("two", first.pulls(0), 2);
        first.fail(0, 1);
        Check.due("the first can't be thrown", first.pulls(0), -1);
        Check.due("so it is", first.turn(0), 1);
        LeverFrame last = Check.laid("section c 1;section b 1;section a 1;points q c;points p a;track a b p reverse;track b c q reverse;"
                + "signal g a down;route r g;over r b;over r c;");
        Check.due("two", last.pulls(0), 2);
        last.fail(2, 1);
        Check.due("the last can't be thrown", last.pulls(0), -1);
    }

    private static void pullsOfNoSuch() {
        Check.part("promise 23: NONE: no such one");
        LeverFrame x = Check.laid(Check.FULL);
        Check.due("the last", x.pulls(9), 1);
        Check.due("one more", x.pulls(10), -1);
        for (int no : NEVER) {
            Check.due("no route", x.pulls(no), -1);
        }
        Check.due("none at all", new LeverFrame().pulls(0), -1);
    }

    private static void pullsOfTheLatest() {
        Check.part("promise 24: by the latest pulls() that was not NONE; NONE: none such, or ahead of any");
        LeverFrame x = Check.laid(Check.FULL);
        Check.due("ahead of any", x.pullsAt(0), -1);
        Check.due("none", x.pulls(10), -1);
        Check.due("ahead of any that was not NONE", x.pullsAt(0), -1);
        Check.due("r", x.pulls(9), 1);
        Check.due("the first", x.pullsAt(0), 21);
        Check.due("no second", x.pullsAt(1), -1);
        for (int no : NEVER) {
            Check.due("none such", x.pullsAt(no), -1);
        }
        x.pulls(10);
        x.turn(5);
        Check.due("the latest stays", x.pullsAt(0), 21);
        Check.due("nothing to be pulled", x.pulls(9), 0);
        Check.due("0 is the latest", x.pullsAt(0), -1);
        x.turn(5);
        x.pulls(9);
        Check.layout(x, "");
        Check.due("a new layout leaves it", x.pullsAt(0), 21);
    }

    private static void togetherNone() {
        Check.part("promise 26: NONE ahead of any");
        LeverFrame x = new LeverFrame();
        Check.due("ahead of any", x.those(), -1);
        Check.due("no routes", x.together(), 0);
        Check.due("no bits", x.those(), 0);
        Check.layout(x, "section s 1;signal g s down;route r g;");
        Check.due("the latest", x.those(), 0);
        Check.due("one without sections", x.together(), 1);
        Check.due("it", x.those(), 1);
    }

    private static void togetherAll() {
        Check.part("TOGETHER: the most ROUTES of which no two CONFLICT");
        Check.due("ten of one signal", Check.laid(TEN).together(), 1);
        LeverFrame x = Check.laid(Check.FULL);
        // ra to rh each to the next section: all eight.
        Check.due("eight of ten", x.together(), 8);
        Check.due("the first eight", x.those(), 255);
        LeverFrame two = Check.laid(row(1, 1, 1) + "signal g a down;signal h b down;route r g;over r b;route s h;over s c;lock r s;");
        Check.due("locks are no matter", two.together(), 2);
        two.set(0);
        two.fail(2, 1);
        Check.due("what is so is no matter", two.together(), 2);
    }

    private static void togetherLeast() {
        Check.part("TOGETHER: of like ones the least as bits");
        LeverFrame x = Check.laid(TEN);
        x.together();
        Check.due("the first", x.those(), 1);
        // Three pairs of one signal each, listed so that the least set is not the first of each row.
        LeverFrame y = Check.laid("section a 1;section b 1;section c 1;signal g a down;signal h b down;signal k c down;"
                + "route q g;route r h;route s h;route t k;route u k;route v g;");
        Check.due("three", y.together(), 3);
        Check.due("q r t", y.those(), 1 + 2 + 8);
        // The greater number of routes goes ahead of the lesser bits.
        LeverFrame z = Check.laid(row(1, 1, 1, 1) + "signal g a down;signal h b down;signal k c down;"
                + "route r g;over r b;over r c;over r d;route s h;over s c;route t k;over t d;");
        Check.due("two", z.together(), 2);
        Check.due("s t", z.those(), 6);
    }

    private static void roundsNone() {
        Check.part("promise 27: how many (0: there are no ROUTES)");
        Check.due("a new object", new LeverFrame().rounds(), 0);
        Check.due("sections and signals alone", Check.laid("section s 1;signal g s down;").rounds(), 0);
        Check.due("one route", Check.laid("section s 1;signal g s down;route r g;").rounds(), 1);
    }

    private static void roundsMost() {
        Check.part("ROUNDS: the fewest sets of ROUTES, each ROUTE in one, so that in none of them two CONFLICT");
        Check.due("ten of one signal", Check.laid(TEN).rounds(), 10);
        Check.due("nine of one signal", Check.laid(TEN.replace("route rj g;", "")).rounds(), 9);
        LeverFrame x = Check.laid(Check.FULL);
        // rh, ri and rj conflict with one another: three; all else goes into these.
        Check.due("three", x.rounds(), 3);
        // Taken one by one into the first round that is free for it, these four would need three.
        LeverFrame y = Check.laid(row(1, 1, 1, 1, 1, 1, 1) + "signal ga a down;signal gb b down;signal gc c down;signal gd d down;signal ge e down;"
                + "route ra ga;over ra b;over ra c;route rd gd;over rd e;over rd f;route rb gb;over rb c;over rb d;route rc gc;over rc d;over rc e;");
        Check.due("two", y.rounds(), 2);
        // A ring of five, each in conflict with its two neighbours: the fifth fits into neither of two.
        LeverFrame z = Check.laid(row(1, 1, 1, 1, 1, 1, 1) + "track g a;signal ga a down;signal gb b down;signal gc c down;signal gd d down;"
                + "signal ge e down;route ra ga;over ra b;over ra c;route rb gb;over rb c;over rb d;route rc gc;over rc d;over rc e;"
                + "route rd gd;over rd e;over rd f;route re ge;over re f;over re g;over re a;over re b;");
        Check.due("neighbours of the first", z.route(0, 4), 2 + 16);
        Check.due("three", z.rounds(), 3);
    }

    private static void pathThere() {
        Check.part("promise 28: how many ROUTES (0: it is there)");
        LeverFrame x = Check.laid("section a 1;section b 1;train t a down;train u b up;");
        Check.due("there, without a signal", x.path(0, 0), 0);
        Check.due("there, too", x.path(1, 1), 0);
        Check.due("nothing", x.pathAt(0), -1);
        LeverFrame ring = Check.laid(Check.FULL);
        Check.due("there, not round the ring", ring.path(4, 7), 0);
    }

    private static void pathLongest() {
        Check.part("PATH: the fewest ROUTES, one behind the other, each of a SIGNAL of the SECTION where the one ahead ends");
        StringBuilder text = new StringBuilder(row(1, 1, 1, 1, 1, 1, 1, 1, 1));
        for (char c = 'a'; c < 'i'; c++) {
            text.append("signal g").append(c).append(' ').append(c).append(" down;");
        }
        for (char c = 'h'; c >= 'a'; c--) {
            text.append("route r").append(c).append(" g").append(c).append(";over r").append(c).append(' ')
                    .append((char) (c + 1)).append(';');
        }
        LeverFrame x = Check.laid(text + "train t a down;");
        Check.due("eight", x.path(0, 8), 8);
        for (int k = 0; k < 8; k++) {
            Check.due("step " + k, x.pathAt(k), 7 - k);
        }
        Check.due("no more", x.pathAt(8), -1);
        LeverFrame full = Check.laid(Check.FULL);
        Check.due("c to k: to g, then ri", full.path(0, 10), 5);
        Check.due("the last", full.pathAt(4), 8);
        Check.due("c to b: to g, then over h: rg rj", full.path(0, 1), 6);
        Check.due("rg", full.pathAt(4), 6);
        Check.due("rj", full.pathAt(5), 9);
        Check.due("h to b", full.path(4, 1), 1);
        Check.due("by rj", full.pathAt(0), 9);
        Check.due("h to i: the lesser", full.path(4, 8), 1);
        Check.due("by rh", full.pathAt(0), 7);
    }

    private static void pathByNone() {
        Check.part("promise 28: NONE: by none (so, too, where there is no SIGNAL for its WAY), it is OUT, no such ones");
        String pair = row(1, 1, 1) + "signal g a down;route r g;over r b;";
        LeverFrame x = Check.laid(pair + "train t a down;train u c up;");
        Check.due("by r", x.path(0, 1), 1);
        Check.due("r ends at b, where there is no signal", x.path(0, 2), -1);
        Check.due("no signal for its way", x.path(1, 1), -1);
        Check.due("one more train", x.path(2, 0), -1);
        Check.due("one more section", x.path(0, 3), -1);
        for (int no : NEVER) {
            Check.due("no train", x.path(no, 0), -1);
            Check.due("no section", x.path(0, no), -1);
        }
        Check.due("neither", x.path(-1, -1), -1);
        LeverFrame other = Check.laid(pair + "train t a up;");
        Check.due("a signal for the other way", other.path(0, 1), -1);
        Check.due("there all the same", other.path(0, 0), 0);
        other.ticks(1);
        Check.due("out", other.now(4), 1);
        Check.due("out: not even there", other.path(0, 0), -1);
        Check.due("none at all", new LeverFrame().path(0, 0), -1);
    }

    private static void pathWithoutSections() {
        Check.part("PATH: a ROUTE without SECTIONS is none of these");
        LeverFrame x = Check.laid(row(1, 1, 1) + "signal g a down;signal h b down;route n g;route r g;over r b;route m h;route s h;over s c;"
                + "train t a down;");
        Check.due("two", x.path(0, 2), 2);
        Check.due("r", x.pathAt(0), 1);
        Check.due("s", x.pathAt(1), 3);
        LeverFrame none = Check.laid(row(1, 1) + "signal g a down;route n g;train t a down;");
        Check.due("by none", none.path(0, 1), -1);
        Check.due("there", none.path(0, 0), 0);
    }

    private static void pathLeast() {
        Check.part("PATH: of like ones the first: ROUTE by ROUTE the least");
        String text = "section a 1;section b 1;section c 1;section d 1;track a b;track a c;track b d;track c d;"
                + "signal ga a down;signal gb b down;signal gc c down;";
        LeverFrame x = Check.laid(text + "route v gc;over v d;route u ga;over u c;route t ga;over t b;route s gb;over s d;train k a down;");
        Check.due("two", x.path(0, 3), 2);
        Check.due("u ahead of t, though v is less than s", x.pathAt(0), 1);
        Check.due("v", x.pathAt(1), 0);
        LeverFrame y = Check.laid(text + "route v gc;over v d;route t ga;over t b;route u ga;over u c;route s gb;over s d;train k a down;");
        Check.due("two", y.path(0, 3), 2);
        Check.due("t", y.pathAt(0), 1);
        Check.due("s, though v is less", y.pathAt(1), 3);
        Check.part("PATH: (LOCKS, POINTS, other TRAINS no matter)");
        LeverFrame z = Check.laid(text + "points p b;route t ga;over t b;route s gb;over s d;lock t s;train k a down;train j b up;train i d up;");
        z.fail(1, 1);
        z.fail(3, 1);
        Check.due("two", z.path(0, 3), 2);
    }

    private static void pathOfTheLatest() {
        Check.part("promise 29: by the latest path() that was not NONE; NONE: none such, or ahead of any");
        LeverFrame x = Check.laid(Check.FULL);
        Check.due("ahead of any", x.pathAt(0), -1);
        x.path(5, 0);
        Check.due("ahead of any that was not NONE", x.pathAt(0), -1);
        Check.due("two", x.path(4, 0), 1);
        Check.due("rj", x.pathAt(0), 9);
        for (int no : NEVER) {
            Check.due("none such", x.pathAt(no), -1);
        }
        Check.due("no second", x.pathAt(1), -1);
        x.path(4, 12);
        x.path(5, 0);
        x.turn(5);
        x.set(9);
        x.ticks(1);
        Check.due("the latest stays", x.pathAt(0), 9);
        x.path(4, 8);
        Check.due("0 is the latest", x.pathAt(0), -1);
    }

    private static void comesThere() {
        Check.part("promise 30: TICKS (0: it is there); NONE: not in 300, no such ones");
        LeverFrame x = Check.laid(row(2, 3, 1) + "train t a down;train u b down;");
        Check.due("there", x.comes(0, 0), 0);
        Check.due("behind two", x.comes(0, 1), 2);
        Check.due("they crash there", x.comes(0, 2), -1);
        Check.due("u neither", x.comes(1, 2), -1);
        Check.due("one more train", x.comes(2, 0), -1);
        Check.due("one more section", x.comes(0, 3), -1);
        for (int no : NEVER) {
            Check.due("no train", x.comes(no, 0), -1);
            Check.due("no section", x.comes(0, no), -1);
        }
        x.ticks(2);
        Check.due("crashed, and there", x.comes(0, 1), 0);
        Check.due("nothing goes by", x.now(0), 2);
        LeverFrame out = Check.laid("section a 1;train t a down;");
        out.ticks(1);
        Check.due("out", out.comes(0, 0), -1);
        Check.due("none at all", new LeverFrame().comes(0, 0), -1);
        // The first time it is there counts, though the ring brings it there again.
        LeverFrame ring = Check.laid(row(1, 1, 1) + "track c a;train t a down;");
        Check.due("to c", ring.comes(0, 2), 2);
        Check.due("to a: it is there", ring.comes(0, 0), 0);
    }

    private static void comesIn300() {
        Check.part("promise 30: NONE: not in 300");
        String ten = row(30, 30, 30, 30, 30, 30, 30, 30, 30, 30, 1, 1);
        LeverFrame x = Check.laid(ten + "train t a down;");
        Check.due("behind 300", x.comes(0, 10), 300);
        Check.due("behind 301", x.comes(0, 11), -1);
        LeverFrame y = Check.laid(ten.replace("section j 30", "section j 29") + "train t a down;");
        Check.due("behind 299", y.comes(0, 10), 299);
        Check.due("behind 300", y.comes(0, 11), 300);
        LeverFrame z = Check.laid(ten.replace("section a 30", "section a 1").replace("section k 1", "section k 30") + "train t a down;");
        Check.due("behind 301 by another row", z.comes(0, 11), -1);
        z.ticks(1);
        Check.due("behind 300", z.comes(0, 11), 300);
    }

    private static void comesBehind1000() {
        Check.part("All by what would go on, if nothing else is done, TICK 1000 no matter");
        LeverFrame x = Check.laid(row(30, 30, 30, 1) + "signal g a down;route r g;over r b;signal h d down;train t a down;train u d down;hold 1;");
        runTo(x, 1000);
        Check.due("waits for ever", x.comes(0, 1), -1);
        x.set(0);
        Check.due("to b", x.comes(0, 1), 1);
        Check.due("to c", x.comes(0, 2), 31);
        Check.due("to d", x.comes(0, 3), 61);
        Check.due("they meet", x.meet(), 61);
        Check.due("none goes by", x.ticks(1), 0);
        Check.due("set yet", x.route(0, 1), 1);
        x.back(0);
        Check.due("nothing else is done", x.comes(0, 1), -1);
        Check.due("nobody meets", x.meet(), -1);
    }

    private static void meetIn300() {
        Check.part("promise 31: TICKS (1 and on); NONE: not in 300");
        LeverFrame one = Check.laid(row(1, 9) + "train t a down;train u b down;");
        Check.due("behind one", one.meet(), 1);
        String ten = row(30, 30, 30, 30, 30, 30, 30, 30, 30, 30, 1, 1) + "train t a down;";
        Check.due("behind 300", Check.laid(ten + "signal sk k down;train u k down;").meet(), 300);
        LeverFrame late = Check.laid(ten + "signal sl l down;train u l down;");
        Check.due("behind 301", late.meet(), -1);
        late.ticks(1);
        Check.due("behind 300", late.meet(), 300);
        Check.due("nothing goes by", late.now(0) + late.now(5), 1);
        Check.due("no trains", new LeverFrame().meet(), -1);
        Check.due("one train", Check.laid(row(1, 1) + "train t a down;").meet(), -1);
    }

    private static void meetNotNow() {
        Check.part("MEET: behind how many TICKS any TRAIN is CRASHED that is not now");
        LeverFrame x = Check.laid("section a 1;section b 1;section c 5;section d 1;track a b;track c b;signal g b down;"
                + "train t a down;train u b down;train v c down;");
        Check.due("the first two", x.meet(), 1);
        x.ticks(1);
        Check.due("crashed", x.now(5), 3);
        Check.due("the third", x.meet(), 4);
        x.ticks(4);
        Check.due("all", x.now(5), 7);
        Check.due("nobody is left", x.meet(), -1);
    }

    private static void fitsPairs() {
        Check.part("FITS by the tape (pairs of bytes: 1 to 6 of them)");
        LeverFrame x = Check.laid(Check.FULL);
        int[] bytes = {0, 0, 1, 0, 6, 0, 8, 0, 9, 0, 11, 0, 10, 0, 0};
        for (int n = 0; n <= 15; n++) {
            int[] some = java.util.Arrays.copyOf(bytes, n);
            Check.tape(x, some);
            boolean told = n >= 2 && n <= 12 && n % 2 == 0;
            // All are clear: each pair leaves out the failure of that section to full.
            Check.due(n + " bytes", x.fits(), told ? 25 - n / 2 : -1);
            Check.due("the tape is empty", x.count(8), 0);
        }
        Check.tape(x, "" + Check.times(1460, "" + (char) 0));
        Check.due("a full tape", x.fits(), -1);
        Check.tape(x, 0, 0, 0, 0, 0, 0, 0, 0, 0, 0, 0, 0);
        Check.due("six alike", x.fits(), 24);
    }

    private static void fitsBytes() {
        Check.part("promise 32: NONE: not as told (a byte that is no SECTION, neither 0 nor 1, too)");
        for (int b = 0; b < 256; b++) {
            LeverFrame x = Check.laid(Check.FULL);
            Check.tape(x, b, 1);
            boolean hasTrain = b >= 2 && b <= 5 || b == 7;
            Check.due("section " + b, x.fits(), b >= 12 ? -1 : hasTrain ? 24 : 1);
            Check.tape(x, 11, b);
            Check.due("full " + b, x.fits(), b == 0 ? 24 : b == 1 ? 1 : -1);
        }
        LeverFrame z = Check.laid(Check.FULL);
        Check.tape(z, 0, 0, 12, 0);
        Check.due("a later one", z.fits(), -1);
        Check.tape(z, 0, 0, 11, 2);
        Check.due("a later one", z.fits(), -1);
        Check.tape(z, 0, 1, 1, 1, 0, 2);
        Check.due("not as told, though nothing fits ahead of it", z.fits(), -1);
        LeverFrame none = new LeverFrame();
        Check.tape(none, 0, 0);
        Check.due("no sections", none.fits(), -1);
    }

    private static void fitsNone() {
        Check.part("promise 32: how many FAILURES");
        LeverFrame x = Check.laid("section a 1;section b 1;train t a down;");
        Check.tape(x, 0, 0, 1, 1);
        Check.due("two at once: none", x.fits(), 0);
        Check.tape(x, 0, 0, 0, 1);
        Check.due("both ways: none", x.fits(), 0);
        Check.due("ahead of any above 0", x.fitsAt(0), -1);
        Check.due("ahead of any above 0", x.ask(), -1);
        Check.tape(x, 0, 0);
        Check.due("one", x.fits(), 1);
        Check.part("FITS: what FAILS now no matter");
        x.fail(0, 0);
        x.fail(1, 1);
        Check.tape(x, 0, 1, 1, 0);
        Check.due("none, a full, b clear", x.fits(), 3);
        Check.due("a full", x.fitsAt(0), 1);
        Check.due("b clear", x.fitsAt(1), 2);
        Check.due("none", x.fitsAt(2), 4);
    }

    private static void fitsLast() {
        Check.part("of the FAILURES (2 by SECTION: clear, and 1: full; 2 by how many SECTIONS there are: none)");
        LeverFrame x = Check.laid(Check.FULL);
        Check.tape(x, 11, 0);
        Check.due("all but the last full", x.fits(), 24);
        for (int k = 0; k < 24; k++) {
            Check.due("failure " + k, x.fitsAt(k), k < 23 ? k : 24);
        }
        Check.due("no more", x.fitsAt(24), -1);
        Check.tape(x, 11, 1);
        Check.due("the last full", x.fits(), 1);
        Check.due("23", x.fitsAt(0), 23);
        LeverFrame one = Check.laid("section a 1;");
        Check.tape(one, 0, 0);
        Check.due("two of three", one.fits(), 2);
        Check.due("clear", one.fitsAt(0), 0);
        Check.due("none", one.fitsAt(1), 2);
    }

    private static void fitsOfTheLatest() {
        Check.part("promise 33: by the latest fits() above 0; NONE: none such, or ahead of any");
        LeverFrame x = Check.laid("section a 1;section b 1;train t a down;");
        Check.due("ahead of any", x.fitsAt(0), -1);
        Check.tape(x, 0, 1);
        Check.due("four", x.fits(), 4);
        for (int no : NEVER) {
            Check.due("none such", x.fitsAt(no), -1);
        }
        Check.due("the last", x.fitsAt(3), 4);
        Check.due("no more", x.fitsAt(4), -1);
        Check.tape(x, 0, 0, 1, 1);
        x.fits();
        Check.due("0 leaves it", x.fitsAt(3), 4);
        x.fits();
        Check.due("NONE leaves it", x.fitsAt(3), 4);
        x.ticks(5);
        Check.due("ticks leave it", x.fitsAt(3), 4);
        Check.tape(x, 0, 1);
        Check.due("t is out", x.fits(), 1);
        Check.due("a full", x.fitsAt(0), 1);
        Check.due("none of the one ahead", x.fitsAt(1), -1);
    }

    private static void askLeast() {
        Check.part("ASK: the SECTION by whose SHOWING then the greatest number of these that may still be left is the least (of like ones the first)");
        LeverFrame x = Check.laid("section a 1;section b 1;section c 1;train t b down;");
        Check.tape(x, 0, 0);
        // Left: a clear, b clear, b full, c clear, c full, none. By b: 1 or 5; by c: 1 or 5; by a: 6.
        Check.due("six", x.fits(), 6);
        Check.due("b ahead of c", x.ask(), 1);
        Check.tape(x, 0, 0, 1, 1);
        Check.due("five", x.fits(), 5);
        Check.due("c alone tells", x.ask(), 2);
        Check.tape(x, 0, 1);
        Check.due("one", x.fits(), 1);
        Check.due("all tell alike: the first", x.ask(), 0);
        // Two sections: failure 2 is that of the second to clear, not none (4).
        LeverFrame two = Check.laid("section a 1;section b 1;train t b down;");
        Check.tape(two, 0, 0);
        Check.due("four", two.fits(), 4);
        Check.due("b tells one from three", two.ask(), 1);
        LeverFrame full = Check.laid(Check.FULL);
        Check.tape(full, 0, 0, 1, 0, 2, 1, 3, 1, 4, 1, 5, 1);
        full.fits();
        Check.due("the first that was not told", full.ask(), 6);
    }

    private static void askOfTheLatest() {
        Check.part("promise 34: ASK by the latest fits() above 0 (by where TRAINS were then); NONE ahead of any");
        LeverFrame x = Check.laid("section a 1;section b 1;section c 1;train t b down;");
        Check.due("ahead of any", x.ask(), -1);
        Check.tape(x, 3, 0);
        x.fits();
        Check.due("ahead of any above 0", x.ask(), -1);
        Check.tape(x, 0, 0, 1, 1);
        x.fits();
        Check.due("c", x.ask(), 2);
        x.ticks(3);
        Check.due("by where trains were then", x.ask(), 2);
        Check.tape(x, 0, 1, 1, 1);
        Check.due("none fits", x.fits(), 0);
        Check.due("0 leaves it", x.ask(), 2);
        x.fits();
        Check.due("NONE leaves it", x.ask(), 2);
        Check.layout(x, "section z 1;");
        Check.due("a layout leaves it", x.ask(), 2);
    }

    private static void meanLeastTerms() {
        Check.part("All fractions are told by two numbers: 0 above, 1 below, in least terms");
        // Five trains of which one waits, each tick one more.
        StringBuilder text = new StringBuilder(Check.times(5, "section s# 1;") + "signal g sa up;");
        for (char c = 'a'; c < 'f'; c++) {
            text.append("train t").append(c).append(" s").append(c).append(" up;");
        }
        LeverFrame x = Check.laid(text.toString());
        for (int sum = 0; sum <= 30; sum++) {
            Check.due("above of " + sum, Check.mean(x, 0), sum % 5 == 0 ? sum / 5 : sum);
            Check.due("below of " + sum, Check.mean(x, 1), sum % 5 == 0 ? 1 : 5);
            x.ticks(1);
        }
        LeverFrame four = Check.laid("section a 1;section b 1;section c 1;section d 1;signal g a up;signal h b up;"
                + "train t a up;train u b up;train v c up;train w d up;");
        four.ticks(1);
        Check.due("2 of 4: 1", Check.mean(four, 0), 1);
        Check.due("of 2", Check.mean(four, 1), 2);
        four.ticks(1);
        Check.due("4 of 4: 1", Check.mean(four, 0), 1);
        Check.due("of 1", Check.mean(four, 1), 1);
        // As much as can be waited: all five, all ticks.
        LeverFrame all = Check.laid("section a 1;section b 1;section c 1;section d 1;section e 1;signal p a up;signal q b up;signal r c up;"
                + "signal s d up;signal t e up;train f a up;train g b up;train h c up;train i d up;train j e up;");
        runTo(all, 1000);
        Check.due("1000", Check.mean(all, 0), 1000);
        Check.due("of 1", Check.mean(all, 1), 1);
    }

    private static void meanThrows() {
        Check.part("promise 35: NoSuchElementException: there are no TRAINS, no such ones");
        LeverFrame x = new LeverFrame();
        Check.due("no trains", Check.mean(x, 0), Check.THROWS);
        Check.due("no trains", Check.mean(x, 1), Check.THROWS);
        Check.layout(x, "section a 1;");
        Check.due("no trains", Check.mean(x, 0), Check.THROWS);
        Check.layout(x, "section a 1;train t a up;");
        Check.due("0", Check.mean(x, 0), 0);
        Check.due("of 1", Check.mean(x, 1), 1);
        Check.due("no third number", Check.mean(x, 2), Check.THROWS);
        for (int no : NEVER) {
            Check.due("no such", Check.mean(x, no), Check.THROWS);
        }
        x.ticks(1);
        Check.due("one that is out counts", Check.mean(x, 1), 1);
    }

    private static void tagShortest() {
        Check.part("TAG of a TRAIN: its NAME, then ' out', or ' in ' and the SECTION's NAME; ' crashed' behind it, else ' waits'");
        LeverFrame x = Check.laid("section a 1;train t a up;");
        Check.due("six bytes", x.tag(0), 6);
        Check.dueText("in", Check.tag(x, 0), "t in a");
        x.ticks(1);
        Check.due("five bytes", x.tag(0), 5);
        Check.dueText("out", Check.tag(x, 0), "t out");
        Check.due("the older one's last byte is gone", x.byteAt(5), -1);
        LeverFrame y = Check.laid("section azazaza 1;section zazazaz 2;track zazazaz azazaza;signal g azazaza down;"
                + "train zzzzzzz azazaza down;train aaaaaaa zazazaz down;");
        y.ticks(1);
        Check.due("24 bytes", y.tag(0), 24);
        Check.dueText("waits", Check.tag(y, 0), "zzzzzzz in azazaza waits");
        Check.dueText("not yet", Check.tag(y, 1), "aaaaaaa in zazazaz");
        y.ticks(1);
        Check.due("26 bytes, the most", y.tag(0), 26);
        Check.dueText("crashed, it does not wait", Check.tag(y, 0), "zzzzzzz in azazaza crashed");
        Check.dueText("crashed, too", Check.tag(y, 1), "aaaaaaa in azazaza crashed");
        LeverFrame last = Check.laid(Check.FULL);
        Check.dueText("the last", Check.tag(last, 4), "te in h");
        last.turn(5);
        last.set(9);
        last.ticks(1);
        Check.dueText("it waits not, though the others do", Check.tag(last, 4), "te in i");
        Check.dueText("the one ahead", Check.tag(last, 3), "td in f waits");
    }

    private static void tagNoneSuch() {
        Check.part("promise 36: NONE: no such one; promise 37: NONE: none such");
        LeverFrame x = Check.laid(Check.FULL);
        Check.due("ahead of any", x.byteAt(0), -1);
        Check.due("one more", x.tag(5), -1);
        Check.due("ahead of any yet", x.byteAt(0), -1);
        Check.due("seven", x.tag(4), 7);
        Check.due("the first byte", x.byteAt(0), 't');
        Check.due("the last byte", x.byteAt(6), 'h');
        Check.due("one more", x.byteAt(7), -1);
        for (int no : NEVER) {
            Check.due("none such", x.byteAt(no), -1);
            Check.due("no train", x.tag(no), -1);
        }
        Check.due("the latest stays", x.byteAt(1), 'e');
        Check.due("none at all", new LeverFrame().tag(0), -1);
    }

    private static void drawnAsTold() {
        Check.part("promise 38: n (1 to 60) TICKS DRAWN by a seed: how many went by; NONE: not as told");
        LeverFrame x = Check.laid(Check.JUNCTION);
        for (int no : new int[] {0, -1, -60, 61, 62, 1000, Integer.MIN_VALUE, Integer.MAX_VALUE}) {
            Check.due("not as told", x.drawn(no, 1), -1);
            Check.due("none went by", x.now(0) + x.now(2) + x.now(3), 0);
            Check.due("nothing to undo", x.undo(), -1);
        }
        Check.due("one", x.drawn(1, 1), 1);
        Check.due("sixty", x.drawn(60, 1), 60);
        Check.due("tick", x.now(0), 61);
        Check.due("two can be undone", x.undo(), 1);
    }

    /** The draws of the document, over longs so that nothing wraps by itself. */
    private static int draw(long[] x, int n) {
        x[0] = (int) (x[0] * 1103515245L + 12345L);
        return (int) ((x[0] & 0xffffffffL) / 256 % n);
    }

    /** The same ticks by calls of set(), back(), turn() and ticks(). */
    private static void drawByHand(LeverFrame x, int n, int seed) {
        long[] at = {seed};
        for (int i = 0; i < n; i++) {
            int lot = draw(at, 4);
            if (lot < 2 && x.count(4) > 0) {
                int r = draw(at, x.count(4));
                if (x.route(r, 1) == 1) {
                    x.back(r);
                } else {
                    x.set(r);
                }
            } else if (lot == 2 && x.count(1) > 0) {
                x.turn(draw(at, x.count(1)));
            }
            x.ticks(1);
        }
    }

    private static void drawnWraps() {
        Check.part("DRAWN by a seed x: x becomes x * 1103515245 + 12345 (an int, wrapping), the draw is (x >>> 8) % n");
        int[] seeds = {0, 1, -1, Integer.MAX_VALUE, Integer.MIN_VALUE, 0x7fffff00, 0x80000100, 255, 256, -256, 123456789, -123456789};
        for (String layout : new String[] {Check.JUNCTION, Check.FULL}) {
            for (int seed : seeds) {
                LeverFrame one = Check.laid(layout);
                LeverFrame other = Check.laid(layout);
                Check.due("sixty", one.drawn(60, seed), 60);
                drawByHand(other, 60, seed);
                for (int what = 0; what < 7; what++) {
                    Check.due("now " + what + " by " + seed, one.now(what), other.now(what));
                }
                for (int t = 0; t < one.count(6); t++) {
                    for (int what = 0; what < 7; what++) {
                        Check.due("train " + what + " by " + seed, Check.train(one, t, what), Check.train(other, t, what));
                    }
                }
            }
        }
    }

    private static void drawnNoDraw() {
        Check.part("DRAWN: a draw of all ROUTES (none: no draw); a draw of all POINTS (none: no draw)");
        String points = "section a 1;section b 1;points p a;points q b;points r b;";
        String routes = "section a 1;section b 1;track a b;signal g a down;route r g;over r b;route s g;over s b;train t b up;";
        for (int seed = -40; seed < 40; seed++) {
            for (String layout : new String[] {points, routes, "section a 1;", ""}) {
                LeverFrame one = Check.laid(layout);
                LeverFrame other = Check.laid(layout);
                Check.due("eleven", one.drawn(11, seed), 11);
                drawByHand(other, 11, seed);
                Check.due("reverse by " + seed, one.now(3), other.now(3));
                Check.due("not free by " + seed, one.now(2), other.now(2));
                Check.due("tick", one.now(0), 11);
            }
        }
    }

    private static void drawnLast() {
        Check.part("promise 38: how many went by, at the last ticks");
        LeverFrame x = Check.laid("section a 1;");
        runTo(x, 990);
        Check.due("ten", x.drawn(60, 1), 10);
        Check.due("none", x.drawn(60, 1), 0);
        Check.due("the ten are undone", x.undo(), 7);
        Check.due("tick", x.now(0), 990);
        // At tick 1000 no act is drawn either.
        for (int seed = 0; seed < 20; seed++) {
            LeverFrame y = Check.laid("section a 1;points p a;");
            Check.book(y, Check.times(16, "tick 60;") + "tick 40;", 1);
            Check.due("none", y.drawn(60, seed), 0);
            Check.due("nothing is thrown", y.now(3), 0);
        }
    }

    private static void oddsAsTold() {
        Check.part("promise 39: Of n (1 to 30) seeds; NONE: not as told");
        String sure = row(2, 9, 2) + "train t a down;train u c up;";
        LeverFrame x = Check.laid(sure);
        for (int no : new int[] {0, -1, -30, 31, 32, Integer.MIN_VALUE, Integer.MAX_VALUE}) {
            Check.due("not as told", x.odds(no, 1), -1);
        }
        for (int n = 1; n <= 30; n++) {
            Check.due("all of " + n, x.odds(n, -n), n);
        }
        Check.due("nothing goes by", x.now(0) + x.now(6), 0);
        Check.due("nothing to undo", x.undo(), -1);
        Check.due("no trains", new LeverFrame().odds(30, 1), 0);
    }

    private static void oddsSeeds() {
        Check.part("promise 39: seeds x, x and 1, ..");
        String text = "section a 20;section b 1;section c 25;track a b;track c b;signal g a down;signal h c down;signal i b down;"
                + "route r g;over r b;route s h;over s b;route n i;route m i;route o i;route p i;train t a down;train u c down;";
        LeverFrame x = Check.laid(text);
        for (int first : new int[] {1, -15, Integer.MAX_VALUE - 9, Integer.MAX_VALUE, Integer.MIN_VALUE}) {
            int hits = 0;
            for (int n = 1; n <= 30; n++) {
                LeverFrame one = Check.laid(text);
                one.drawn(40, first + n - 1);
                hits += one.now(6) > 0 ? 1 : 0;
                Check.due(n + " from " + first, x.odds(n, first), hits);
            }
        }
    }

    private static void oddsForty() {
        Check.part("promise 39: by how many two meet at least once within 40 TICKS DRAWN from now on");
        LeverFrame late = Check.laid(row(30, 11, 1) + "signal g c down;train u c down;train t a down;");
        Check.due("at the 41st", late.odds(30, 1), 0);
        late.ticks(1);
        Check.due("at the 40th", late.odds(30, 1), 30);
        late.ticks(40);
        Check.due("met", late.now(6), 1);
        Check.due("from now on, nobody", late.odds(30, 1), 0);
        // Met once already, and once more within forty: it counts once.
        LeverFrame more = Check.laid("section a 1;section b 1;section c 9;section d 19;track a b;track c b;track d b;signal g b down;"
                + "train t a down;train u b down;train v c down;train w d down;");
        more.ticks(1);
        Check.due("met", more.now(6), 1);
        Check.due("each seed once", more.odds(7, 1), 7);
    }
}
