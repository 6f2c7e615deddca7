/**
 * The edges of what is so and of what is done: for each sentence about routes, points, circuits and
 * ticks, and of promises 6 to 19, the last that goes and the first that does not.
 */
public final class EdgeRunTest {
    /** No number of anything, and no question of any call. */
    private static final int[] NEVER = {-1, -2, Integer.MIN_VALUE, Integer.MAX_VALUE, 16, 31, 32, 64, 256};
    /** Trains in a and b, a signal down at a with one route to b, and one back up from b. */
    private static final String PAIR = "section a 2;section b 2;track a b;signal g a down;signal h b up;"
            + "route r g;over r b;route q h;over q a;";

    private EdgeRunTest() {
    }

    public static void main(String[] args) {
        pointsAtFirst();
        needsFromTheSignalOn();
        freeAtFirst();
        showsFull();
        setNotFree();
        setBarred();
        setAgainstPoints();
        setOverFull();
        setWithoutSections();
        backNotSet();
        backHeldOrFree();
        heldForHold();
        throwInFull();
        throwNeeded();
        failSo();
        mendWhatFails();
        ticksAreOver();
        longOrMore();
        goBySignal();
        goByTracks();
        goOut();
        meetAnother();
        meetInTurn();
        routesLeft();
        waitedOneMore();
        heldOneLess();
        sections();
        points();
        signals();
        routes();
        overs();
        trains();
        throwsChangeNothing();
        now();
        noSuchActs();
        refusedActs();
        sideOfFail();
        ticksAsTold();
        undoEach();
        undoEightAtMost();
        undoNone();
        Check.finish("EdgeRunTest");
    }

    private static void dueRow(String what, int[] got, int... want) {
        Check.due(what + ": how many", got.length, want.length);
        for (int i = 0; i < want.length && i < got.length; i++) {
            Check.due(what + " " + i, got[i], want[i]);
        }
    }

    private static int[] section(LeverFrame x, int s) {
        int[] row = new int[6];
        for (int i = 0; i < row.length; i++) {
            row[i] = x.section(s, i);
        }
        return row;
    }

    private static int[] route(LeverFrame x, int r) {
        int[] row = new int[9];
        for (int i = 0; i < row.length; i++) {
            row[i] = x.route(r, i);
        }
        return row;
    }

    private static int[] train(LeverFrame x, int t) {
        int[] row = new int[7];
        for (int i = 0; i < row.length; i++) {
            row[i] = Check.train(x, t, i);
        }
        return row;
    }

    private static int[] now(LeverFrame x) {
        int[] row = new int[7];
        for (int i = 0; i < row.length; i++) {
            row[i] = x.now(i);
        }
        return row;
    }

    /** Ticks up to that one. */
    private static void runTo(LeverFrame x, int tick) {
        for (int i = 0; i < 20 && x.now(0) < tick; i++) {
            x.ticks(Math.min(60, tick - x.now(0)));
        }
        Check.due("the tick", x.now(0), tick);
    }

    private static void pointsAtFirst() {
        Check.part("POINTS lie normal at first");
        LeverFrame x = Check.laid(Check.FULL);
        for (int p = 0; p < 6; p++) {
            Check.due("normal", x.points(p, 1), 0);
            Check.due("thrown", x.turn(p), p == 4 ? 1 : 0);
        }
        Check.due("all but those under a train", x.now(3), 47);
    }

    private static void needsFromTheSignalOn() {
        Check.part("A ROUTE NEEDS POINTS so as the TRACKS over which it goes, from the SECTION of its SIGNAL on, tell them");
        String row = "section a 1;section b 1;section c 1;section d 1;points p a;points q b;points s c;points t d;"
                + "track a b p reverse;track b c q normal;track c d s reverse;";
        LeverFrame x = Check.laid(row + "signal g a down;route r g;route u g;over u b;route v g;over v b;over v c;"
                + "signal h d up;route w h;over w c;over w b;over w a;");
        Check.due("none without sections", x.route(0, 5) + x.route(0, 6), 0);
        Check.due("the first track", x.route(1, 6), 1);
        Check.due("not the one behind its end", x.route(1, 5), 0);
        Check.due("two tracks, normal", x.route(2, 5), 2);
        Check.due("two tracks, reverse", x.route(2, 6), 1);
        Check.due("up, normal", x.route(3, 5), 2);
        Check.due("up, reverse", x.route(3, 6), 5);
        Check.due("points of no track", x.points(3, 2) + x.points(3, 3), 0);
        LeverFrame same = Check.laid("section a 1;section b 1;section c 1;section d 1;points p a;points q c;track a b p normal;track b c;"
                + "track c d q normal;signal g a down;route r g;over r b;over r c;over r d;");
        Check.due("two normal", same.route(0, 5), 3);
        Check.due("by the first route", same.points(1, 2), 1);
        LeverFrame turned = Check.laid("section a 1;section b 1;section c 1;points p a;points q b;track a b p reverse;track b c q reverse;"
                + "signal g a down;route r g;over r b;over r c;");
        Check.due("two reverse", turned.route(0, 6), 3);
    }

    private static void freeAtFirst() {
        Check.part("It is FREE (at first), SET, USED by a TRAIN, or HELD");
        LeverFrame x = Check.laid(PAIR + "train t a down;");
        Check.due("free", x.route(0, 1), 0);
        x.set(0);
        Check.due("set", x.route(0, 1), 1);
        x.back(0);
        Check.due("held", x.route(0, 1), 3);
        x.ticks(3);
        Check.due("free", x.route(0, 1), 0);
        x.set(0);
        x.ticks(1);
        Check.due("used", x.route(0, 1), 2);
        x.set(1);
        x.ticks(2);
        Check.due("free", x.route(0, 1), 0);
    }

    private static void showsFull() {
        Check.part("A SECTION SHOWS full, if it FAILS full, or a TRAIN is in it (a CRASHED one, too) and it does not FAIL clear");
        LeverFrame x = Check.laid("section a 1;section b 9;section c 1;section d 1;track a b;train t a down;train u b down;train v d up;");
        Check.due("trains", x.now(1), 11);
        x.fail(2, 1);
        Check.due("fails full without one", x.section(2, 2), 1);
        x.fail(0, 1);
        Check.due("fails full with one", x.section(0, 2), 1);
        x.fail(1, 0);
        Check.due("fails clear with one", x.section(1, 2), 0);
        x.mend(1);
        x.fail(3, 0);
        x.ticks(1);
        Check.due("crashed in b", x.now(5), 3);
        Check.due("shows them", x.section(1, 2), 1);
        x.fail(1, 0);
        Check.due("fails clear with crashed ones", x.section(1, 2), 0);
        Check.due("fails clear without one", x.section(3, 2), 0);
        x.mend(3);
        Check.due("who is out is nowhere", x.section(3, 2), 0);
    }

    private static void setNotFree() {
        Check.part("To SET: the least: 1 it is not FREE");
        LeverFrame x = Check.laid(PAIR + "lock r q;route n g;train t a down;");
        x.set(0);
        Check.due("set", x.set(0), 1);
        x.back(0);
        Check.due("held", x.set(0), 1);
        x.ticks(3);
        x.set(0);
        x.ticks(1);
        Check.due("used, and full", x.set(0), 1);
        Check.due("locked with a used one, and full", x.set(1), 2);
        Check.due("of its signal, and without sections", x.set(2), 2);
    }

    private static void setBarred() {
        Check.part("To SET: 2 one that is LOCKED with it, or another of its SIGNAL, is not FREE");
        String text = "section a 9;section b 1;section c 1;section d 1;section e 9;points p c;track a b;track a c p reverse;track e d;"
                + "signal g a down;signal h e down;route r g;over r b;route q g;over q c;route v h;over v d;lock q v;train t a down;";
        LeverFrame x = Check.laid(text);
        x.set(0);
        Check.due("another of its signal is set, and points", x.set(1), 2);
        Check.due("neither locked nor of its signal", x.set(2), 0);
        x.back(2);
        x.back(0);
        Check.due("another of its signal is held", x.set(1), 2);
        x.ticks(3);
        Check.due("free again: points", x.set(1), 3);
        Check.due("v", x.set(2), 0);
        Check.due("locked, told the one way", x.set(1), 2);
        LeverFrame lesser = Check.laid(text);
        lesser.turn(0);
        Check.due("the greater of the signal", lesser.set(1), 0);
        Check.due("bars the lesser", lesser.set(0), 2);
        Check.due("and the one that is locked", lesser.set(2), 2);
        LeverFrame y = Check.laid(text.replace("lock q v", "lock v q"));
        y.set(2);
        Check.due("locked, told the other way", y.set(1), 2);
        y.back(2);
        Check.due("free at once", y.set(1), 3);
    }

    private static void setAgainstPoints() {
        Check.part("To SET: 3 some POINTS lie otherwise than it NEEDS");
        String text = "section a 1;section b 1;section c 1;points p a;points q b;track a b p reverse;track b c q normal;"
                + "signal g a down;route r g;over r b;over r c;";
        LeverFrame x = Check.laid(text);
        x.fail(2, 1);
        Check.due("one lies otherwise, and full", x.set(0), 3);
        x.turn(1);
        Check.due("both", x.set(0), 3);
        x.turn(0);
        Check.due("the last", x.set(0), 3);
        x.turn(1);
        Check.due("none, but full", x.set(0), 4);
        x.mend(2);
        Check.due("done", x.set(0), 0);
    }

    private static void setOverFull() {
        Check.part("To SET: 4 some SECTION of it SHOWS full");
        String text = "section a 1;section b 1;section c 1;section d 1;track a b;track b c;track c d;signal g a down;route r g;"
                + "over r b;over r c;over r d;";
        for (int s = 0; s < 4; s++) {
            LeverFrame x = Check.laid(text);
            x.fail(s, 1);
            Check.due("section " + s + " shows full", x.set(0), s == 0 ? 0 : 4);
            LeverFrame y = Check.laid(text + "train t " + (char) ('a' + s) + " up;");
            Check.due("a train in " + s, y.set(0), s == 0 ? 0 : 4);
            Check.due("that fails clear", y.fail(s, 0), 0);
            Check.due("shows clear", y.set(0), s == 0 ? 1 : 0);
        }
    }

    private static void setWithoutSections() {
        Check.part("To SET: 5 it has none");
        LeverFrame x = Check.laid(PAIR + "route n g;");
        Check.due("none", x.set(2), 5);
        Check.due("free", x.route(2, 1), 0);
        x.set(0);
        Check.due("another of its signal", x.set(2), 2);
        Check.due("not to be put back", x.back(2), 1);
    }

    private static void backNotSet() {
        Check.part("To put it BACK: 1 it is not SET");
        LeverFrame x = Check.laid(PAIR + "train t a down;");
        Check.due("free", x.back(0), 1);
        x.set(0);
        Check.due("set", x.back(0), 0);
        Check.due("held", x.back(0), 1);
        Check.due("held for all its ticks yet", x.route(0, 7), 3);
        x.ticks(3);
        Check.due("free again", x.back(0), 1);
        x.set(0);
        x.ticks(1);
        Check.due("used", x.back(0), 1);
    }

    private static void backHeldOrFree() {
        Check.part("if a TRAIN that is not CRASHED is in the SECTION of its SIGNAL and goes that WAY, it is HELD, else FREE");
        String text = "section z 1;section a 9;section b 1;track z a;track a b;signal g a down;route r g;over r b;";
        String[] trains = {"", "train t a down;", "train t a up;", "train t z up;", "train t z up;train u a down;"};
        int[] how = {0, 3, 0, 0, 3};
        for (int i = 0; i < trains.length; i++) {
            LeverFrame x = Check.laid(text + trains[i]);
            x.set(0);
            Check.due("back", x.back(0), 0);
            Check.due("with \"" + trains[i] + "\"", x.route(0, 1), how[i]);
        }
        LeverFrame x = Check.laid(text + "train t a down;train u z down;");
        x.set(0);
        x.ticks(1);
        Check.due("both crashed in a", x.now(5), 3);
        x.back(0);
        Check.due("nobody who is not", x.route(0, 1), 0);
        LeverFrame y = Check.laid(text + "train t a down;");
        y.set(0);
        y.fail(1, 0);
        y.back(0);
        Check.due("be it that it shows clear", y.route(0, 1), 3);
        LeverFrame z = Check.laid(text);
        z.set(0);
        z.fail(1, 1);
        z.back(0);
        Check.due("what shows full is no train", z.route(0, 1), 0);
    }

    private static void heldForHold() {
        Check.part("HELD for as many TICKS as 'hold' tells; at 0 it is FREE");
        for (int hold : new int[] {0, 1, 2, 3, 29, 30}) {
            LeverFrame x = Check.laid(PAIR.replace("section a 2", "section a 30") + "train t a down;" + (hold == 0 ? "" : "hold " + hold + ";"));
            int held = hold == 0 ? 3 : hold;
            x.set(0);
            x.back(0);
            for (int left = held; left > 0; left--) {
                Check.due("hold " + hold, x.route(0, 7), left);
                Check.due("held", x.route(0, 1), 3);
                x.ticks(1);
            }
            Check.due("none left of " + hold, x.route(0, 7), 0);
            Check.due("free", x.route(0, 1), 0);
        }
    }

    private static void throwInFull() {
        Check.part("To THROW POINTS: 1 their SECTION SHOWS full");
        String text = "section a 1;section b 1;section c 1;points p b;track a b p normal;track b c;signal g a down;route r g;over r b;";
        LeverFrame x = Check.laid(text + "train t b up;");
        Check.due("a train", x.turn(0), 1);
        x.fail(1, 0);
        Check.due("that does not show", x.turn(0), 0);
        x.fail(1, 1);
        Check.due("fails full", x.turn(0), 1);
        Check.due("reverse they stay", x.points(0, 1), 1);
        LeverFrame y = Check.laid(text);
        y.fail(0, 1);
        y.fail(2, 1);
        Check.due("others that show full", y.turn(0), 0);
        Check.due("the other way", y.points(0, 1), 1);
        Check.due("and back", y.turn(0), 0);
        Check.due("normal", y.points(0, 1), 0);
        y.set(0);
        Check.due("needed", y.turn(0), 2);
        y.fail(1, 1);
        Check.due("both: the least", y.turn(0), 1);
    }

    private static void throwNeeded() {
        Check.part("To THROW POINTS: 2 a ROUTE that is not FREE NEEDS them");
        String text = "section a 9;section b 9;section c 9;section d 9;points p a;points q b;track a b p normal;track b c q reverse;track d b q normal;"
                + "signal g a down;route r g;over r b;signal h d down;route v h;over v b;train t a down;";
        LeverFrame x = Check.laid(text);
        x.fail(0, 0);
        x.set(0);
        Check.due("set", x.turn(0), 2);
        Check.due("others are not", x.turn(1), 0);
        x.turn(1);
        x.back(0);
        Check.due("held", x.turn(0), 2);
        x.ticks(3);
        Check.due("free", x.turn(0), 0);
        x.turn(0);
        x.set(0);
        x.ticks(6);
        Check.due("t in b", Check.train(x, 0, 0), 1);
        Check.due("used", x.turn(0), 2);
        x.fail(1, 0);
        Check.due("needed by none", x.turn(1), 0);
        x.turn(1);
        x.set(1);
        Check.due("needed by one that is set, normal", x.turn(1), 2);
        LeverFrame y = Check.laid("section a 1;section b 1;points p a;points q b;points k b;track a b q reverse;signal g a down;route r g;over r b;");
        y.turn(1);
        Check.due("set", y.set(0), 0);
        Check.due("needed reverse", y.turn(1), 2);
        Check.due("others are not", y.turn(0) + y.turn(2), 0);
    }

    private static void failSo() {
        Check.part("To FAIL a SECTION clear, or full: 1 it FAILS so");
        LeverFrame x = Check.laid("section a 1;");
        for (int full = 0; full <= 1; full++) {
            Check.due("done", x.fail(0, full), 0);
            Check.due("so it fails", x.section(0, 3), full + 1);
            Check.due("so already", x.fail(0, full), 1);
            Check.due("and stays so", x.section(0, 3), full + 1);
        }
        Check.due("back to the other", x.fail(0, 0), 0);
        Check.due("clear alone", x.section(0, 3), 1);
        x.mend(0);
        Check.due("full from none", x.fail(0, 1), 0);
        Check.due("full alone", x.section(0, 3), 2);
    }

    private static void mendWhatFails() {
        Check.part("To MEND it: 1 it does not FAIL");
        LeverFrame x = Check.laid("section a 1;section b 1;");
        Check.due("at first", x.mend(0), 1);
        x.fail(0, 0);
        Check.due("another", x.mend(1), 1);
        Check.due("clear", x.mend(0), 0);
        Check.due("again", x.mend(0), 1);
        x.fail(0, 1);
        Check.due("full", x.mend(0), 0);
        Check.due("not any more", x.section(0, 3), 0);
        Check.due("again", x.mend(0), 1);
        Check.part("To MEND it: it does not any more, others as they do");
        LeverFrame y = Check.laid("section a 1;section b 1;section c 1;section d 1;");
        for (int full = 0; full <= 1; full++) {
            y.fail(0, full);
            y.fail(1, 0);
            y.fail(2, 1);
            Check.due("mended", y.mend(0), 0);
            Check.due("a", y.section(0, 3), 0);
            Check.due("b fails clear yet", y.section(1, 3), 1);
            Check.due("c fails full yet", y.section(2, 3), 2);
            Check.due("d does not fail", y.section(3, 3), 0);
        }
    }

    private static void ticksAreOver() {
        Check.part("A TICK (0 to 999; 1000: all are over)");
        LeverFrame x = Check.laid(PAIR + "points p b;train t a down;");
        runTo(x, 940);
        Check.due("the last sixty", x.ticks(60), 60);
        Check.due("tick", x.now(0), 1000);
        Check.due("none", x.ticks(1), 0);
        Check.due("none", x.ticks(60), 0);
        Check.due("none by draws", x.drawn(60, 1), 0);
        Check.due("tick", x.now(0), 1000);
        Check.due("not as told is told first", x.ticks(61), -1);
        Check.due("acts go on", x.set(0), 0);
        Check.due("acts go on", x.turn(0), 0);
        Check.due("acts go on", x.back(0), 0);
        Check.due("held for ever", x.route(0, 7), 3);
        Check.due("acts go on", x.fail(0, 1) + x.mend(0), 0);
        for (int left = 7; left >= 3; left--) {
            Check.due("undone", x.undo(), left);
        }
        Check.due("tick", x.now(0), 1000);
        Check.due("the ticks", x.undo(), 2);
        Check.due("tick", x.now(0), 940);
        runTo(x, 999);
        Check.due("the last", x.ticks(60), 1);
        Check.due("it is undone as one", x.undo() >= 0 ? x.now(0) : -5, 999);
        Check.due("the last by draws", x.drawn(60, 5), 1);
        Check.due("tick", x.now(0), 1000);
    }

    private static void longOrMore() {
        Check.part("it is one TICK longer in its SECTION; if that is LONG or more, it goes on, if it can");
        for (int length : new int[] {1, 2, 29, 30}) {
            LeverFrame x = Check.laid("section a " + length + ";section b 1;track a b;train t a down;");
            for (int i = 1; i < length; i++) {
                x.ticks(1);
                Check.due("in a for", Check.train(x, 0, 2), i);
                Check.due("in a", Check.train(x, 0, 0), 0);
                Check.due("does not wait", Check.train(x, 0, 4) + Check.train(x, 0, 5), 0);
            }
            x.ticks(1);
            Check.due("in b", Check.train(x, 0, 0), 1);
            Check.due("In another SECTION it is for 0 TICKS", Check.train(x, 0, 2), 0);
        }
        LeverFrame y = Check.laid(PAIR + "train t a down;");
        y.ticks(7);
        Check.due("longer than LONG", Check.train(y, 0, 2), 7);
        y.set(0);
        y.ticks(1);
        Check.due("goes at once", Check.train(y, 0, 0), 1);
    }

    private static void goBySignal() {
        Check.part("where there is a SIGNAL of that SECTION for its WAY: if a ROUTE of it is SET; it can not else");
        String text = "section a 1;section b 1;section c 1;track a b;track a c;signal g a down;signal k a up;route r g;over r b;route q g;over q c;"
                + "route n k;";
        LeverFrame x = Check.laid(text + "train t a down;");
        x.ticks(1);
        Check.due("no route is set, though a track leads", Check.train(x, 0, 4), 1);
        x.set(1);
        x.ticks(1);
        Check.due("into the first section of that", Check.train(x, 0, 0), 2);
        Check.due("USED by it", x.route(1, 8), 0);
        LeverFrame held = Check.laid(text + "train t a down;");
        held.set(0);
        held.back(0);
        held.ticks(1);
        Check.due("a held route is not set", Check.train(held, 0, 4), 1);
        LeverFrame up = Check.laid(text + "train t a up;");
        up.set(0);
        up.ticks(1);
        Check.due("another way's route is not its own", Check.train(up, 0, 4), 1);
        Check.due("set yet", up.route(0, 1), 1);
        LeverFrame none = Check.laid("section a 1;section b 1;track a b;signal g a up;train t a down;");
        none.ticks(1);
        Check.due("a signal for the other way is none", Check.train(none, 0, 0), 1);
        Check.part("from there on it goes by SIGNALS and TRACKS as everywhere");
        LeverFrame inner = Check.laid("section a 1;section b 1;section c 1;section d 1;track a b;track b c;track b d;signal g a down;"
                + "signal h b down;signal k b up;route r g;over r b;over r c;route q h;over q d;train t a down;");
        inner.set(0);
        inner.ticks(2);
        Check.due("it waits at the signal within", Check.train(inner, 0, 0) + Check.train(inner, 0, 4), 2);
        Check.due("its route is used yet", inner.route(0, 1), 2);
        inner.set(1);
        inner.ticks(1);
        Check.due("by that signal's route", Check.train(inner, 0, 0), 3);
        Check.due("the elder one is left", inner.route(0, 1), 0);
        Check.due("the other is used", inner.route(1, 8), 0);
        Check.part("where there is a SIGNAL, it can not else");
        LeverFrame end = Check.laid("section a 1;signal g a down;train t a down;");
        end.ticks(1);
        Check.due("no track, but a signal: it waits", Check.train(end, 0, 4), 1);
    }

    private static void goByTracks() {
        Check.part("over the first TRACK that leads on its WAY from there (as POINTS lie now); if none leads, it can not");
        String text = "section a 1;section b 1;section c 1;section d 1;points p a;points q a;track a b p reverse;"
                + "track a c q reverse;track a d q normal;train t a down;";
        LeverFrame x = Check.laid(text);
        x.ticks(1);
        Check.due("the third", Check.train(x, 0, 0), 3);
        LeverFrame both = Check.laid(text);
        both.fail(0, 0);
        both.turn(0);
        both.ticks(1);
        Check.due("the first of two that lead", Check.train(both, 0, 0), 1);
        LeverFrame second = Check.laid(text);
        second.fail(0, 0);
        second.turn(1);
        second.ticks(1);
        Check.due("the second", Check.train(second, 0, 0), 2);
        LeverFrame none = Check.laid(text.replace("q normal", "q reverse"));
        none.ticks(5);
        Check.due("none leads", Check.train(none, 0, 0), 0);
        Check.due("waited", Check.train(none, 0, 5), 5);
        none.fail(0, 0);
        none.turn(1);
        none.ticks(1);
        Check.due("now one does", Check.train(none, 0, 0), 2);
    }

    private static void goOut() {
        Check.part("if there are none, it is OUT");
        LeverFrame x = Check.laid("section a 1;section b 1;track a b;train t b down;train u a up;");
        x.ticks(1);
        Check.due("both", x.now(4), 3);
        dueRow("t", train(x, 0), -1, 0, 0, 0, 0, 0, 0);
        Check.due("nothing shows", x.now(1), 0);
        x.ticks(60);
        dueRow("t for ever", train(x, 0), -1, 0, 0, 0, 0, 0, 0);
        LeverFrame alone = Check.laid("section a 1;train t a up;");
        alone.ticks(1);
        Check.due("no tracks at all", alone.now(4), 1);
    }

    private static void meetAnother() {
        Check.part("If another TRAIN is in that one, both are CRASHED");
        LeverFrame x = Check.laid("section a 1;section b 9;track a b;train t a down;train u b up;");
        x.ticks(1);
        Check.due("both", x.now(5), 3);
        Check.due("met", x.now(6), 1);
        x.ticks(60);
        Check.due("for ever", x.now(5), 3);
        Check.due("met once", x.now(6), 1);
        Check.due("where they met", Check.train(x, 0, 0) + Check.train(x, 1, 0), 2);
        Check.due("full", x.now(1), 2);
        // Two that pass one another at one tick: the first meets the second where it is yet.
        LeverFrame y = Check.laid("section a 1;section b 1;track a b;train t a down;train u b up;");
        y.ticks(1);
        Check.due("both", y.now(5), 3);
        Check.due("in b", Check.train(y, 0, 0) + Check.train(y, 1, 0), 2);
        // By a set route, too, if the section only shows clear.
        LeverFrame z = Check.laid(PAIR + "train t a down;train u b up;");
        z.fail(1, 0);
        z.set(0);
        z.ticks(2);
        Check.due("both", z.now(5), 3);
        Check.due("the route is used by the one", z.route(0, 8), 0);
        Check.due("and stays so", z.ticks(9) == 9 ? z.route(0, 1) : -1, 2);
        // Two meetings in two sections: the elder ones stay crashed.
        LeverFrame two = Check.laid("section a 1;section b 1;section c 2;section d 9;track a b;track c d;signal g b down;"
                + "train t a down;train u b down;train v c down;train w d down;");
        two.ticks(1);
        Check.due("the first two", two.now(5), 3);
        two.ticks(1);
        Check.due("all four", two.now(5), 15);
        Check.due("met twice", two.now(6), 2);
        // All five in one section: four meetings.
        LeverFrame five = Check.laid("section a 1;section b 2;section c 3;section d 4;section e 1;track a e;track b e;track c e;track d e;"
                + "signal g e down;train v e down;train w a down;train x b down;train y c down;train z d down;");
        five.ticks(4);
        Check.due("all", five.now(5), 31);
        Check.due("four", five.now(6), 4);
        Check.due("the least", five.section(4, 1), 0);
    }

    private static void meetInTurn() {
        Check.part("TRAIN by TRAIN");
        String row = "section a 1;section b 1;section c 1;track a b;track b c;";
        LeverFrame x = Check.laid(row + "train t b down;train u a down;");
        x.ticks(1);
        Check.due("the first leaves ahead of the second", x.now(5), 0);
        LeverFrame y = Check.laid(row + "train t a down;train u b down;");
        y.ticks(1);
        Check.due("the first comes ahead of the second's leaving", y.now(5), 3);
        Check.due("who is crashed stays as long as it was", Check.train(y, 1, 2), 0);
    }

    private static void routesLeft() {
        Check.part("each ROUTE that is USED by it, elder ones, too, and has not the SECTION where it is now (or it is OUT) is FREE");
        String row = "section a 1;section b 1;section c 1;section d 1;track a b;track b c;track c d;signal g a down;signal h b down;";
        LeverFrame x = Check.laid(row + "route r g;over r b;over r c;over r d;route q h;over q c;train t a down;");
        x.set(0);
        x.set(1);
        x.ticks(1);
        Check.due("r", Check.train(x, 0, 6), 1);
        x.ticks(1);
        Check.due("in c: both have it", Check.train(x, 0, 6), 3);
        x.ticks(1);
        Check.due("in d: r has it", Check.train(x, 0, 6), 1);
        Check.due("q is free", x.route(1, 1), 0);
        Check.due("used by nobody", x.route(1, 8), -1);
        x.ticks(1);
        Check.due("out", x.now(4), 1);
        Check.due("all free", x.now(2), 0);
        Check.due("none used by one out", Check.train(x, 0, 6), 0);
        // The first section, number 0, is one as any other: the route has it, and is used there.
        LeverFrame back = Check.laid("section a 2;section b 1;track a b;signal g b up;route r g;over r a;train t b up;");
        back.set(0);
        back.ticks(1);
        Check.due("in a", Check.train(back, 0, 0), 0);
        Check.due("used", back.route(0, 1), 2);
        back.ticks(2);
        Check.due("out", back.now(4), 1);
        Check.due("free", back.route(0, 1), 0);
        // What another uses stays.
        LeverFrame y = Check.laid(row + "route r g;over r b;route q h;over q c;over q d;train t a down;train u b down;");
        y.set(1);
        y.fail(1, 0);
        y.set(0);
        y.ticks(1);
        Check.due("crashed: t came first", y.now(5), 3);
        Check.due("r is used", y.route(0, 8), 0);
        Check.due("q is set yet", y.route(1, 1), 1);
    }

    private static void waitedOneMore() {
        Check.part("Who can not go on, though LONG is over, has waited one TICK more");
        LeverFrame x = Check.laid(PAIR + "train t a down;");
        x.ticks(1);
        Check.due("LONG is not over", Check.train(x, 0, 5), 0);
        x.ticks(1);
        Check.due("it is", Check.train(x, 0, 5), 1);
        x.ticks(60);
        Check.due("sixty more", Check.train(x, 0, 5), 61);
        x.set(0);
        x.ticks(1);
        Check.due("it waits no more", Check.train(x, 0, 4), 0);
        Check.due("but has", Check.train(x, 0, 5), 61);
        LeverFrame all = Check.laid("section a 1;signal g a down;train t a down;");
        runTo(all, 1000);
        Check.due("all the ticks there are", Check.train(all, 0, 5), 1000);
        Check.due("in a for", Check.train(all, 0, 2), 1000);
    }

    private static void heldOneLess() {
        Check.part("Then each ROUTE that is HELD has one TICK less to go");
        String text = "section a 1;section b 1;section c 1;section d 1;track a b;track c d;signal g a down;signal h c down;"
                + "route r g;over r b;route q h;over q d;train t a down;train u c down;hold 2;";
        LeverFrame x = Check.laid(text);
        x.set(0);
        x.back(0);
        x.ticks(1);
        x.set(1);
        x.back(1);
        Check.due("r", x.route(0, 7), 1);
        Check.due("q", x.route(1, 7), 2);
        x.ticks(1);
        Check.due("r", x.route(0, 1), 0);
        Check.due("q", x.route(1, 7), 1);
        Check.due("r can be set behind its last tick", x.set(0), 0);
        x.ticks(1);
        Check.due("q", x.route(1, 1), 0);
        Check.due("t went by r", Check.train(x, 0, 0), 1);
    }

    private static void sections() {
        Check.part("promise 6: NONE, too: no such ones");
        LeverFrame x = Check.laid(Check.FULL);
        dueRow("the last", section(x, 11), 30, -1, 0, 0, 768, 0);
        dueRow("the first", section(x, 0), 1, -1, 0, 0, 768, 3);
        dueRow("b", section(x, 1), 1, -1, 0, 0, 513, 12);
        dueRow("k", section(x, 10), 1, -1, 0, 0, 768, 32);
        dueRow("h", section(x, 7), 1, 4, 1, 0, 320, 0);
        Check.due("one more", x.section(12, 0), -1);
        Check.due("one more question", x.section(0, 6), -1);
        for (int no : NEVER) {
            for (int what = 0; what < 6; what++) {
                Check.due("no section", x.section(no, what), -1);
            }
            Check.due("no question", x.section(11, no), -1);
        }
        LeverFrame none = new LeverFrame();
        Check.due("none at all", none.section(0, 0), -1);
        Check.part("promise 6: 1 the TRAIN in it, of two the least (NONE)");
        String row = "section a 1;section b 9;section c 9;track a b;";
        LeverFrame y = Check.laid(row + "train t b down;train u a down;");
        y.ticks(1);
        Check.due("the second came", y.section(1, 1), 0);
        Check.due("it left", y.section(0, 1), -1);
        LeverFrame z = Check.laid(row + "train t a down;train u b down;");
        z.ticks(1);
        Check.due("the first came", z.section(1, 1), 0);
        LeverFrame third = Check.laid(row + "train s c down;train t a down;train u b down;");
        third.ticks(1);
        Check.due("the least of those in it", third.section(1, 1), 1);
    }

    private static void points() {
        Check.part("promise 7: NONE: no such ones");
        LeverFrame x = Check.laid(Check.FULL);
        int[] want = {10, 0, 0, 768};
        for (int what = 0; what < 4; what++) {
            Check.due("the last", x.points(5, what), want[what]);
        }
        x.turn(5);
        Check.due("reverse", x.points(5, 1), 1);
        Check.due("others are normal", x.points(4, 1) + x.points(0, 1), 0);
        Check.due("one more", x.points(6, 0), -1);
        Check.due("one more question", x.points(0, 4), -1);
        for (int no : NEVER) {
            for (int what = 0; what < 4; what++) {
                Check.due("no points", x.points(no, what), -1);
            }
            Check.due("no question", x.points(5, no), -1);
        }
        Check.due("none at all", new LeverFrame().points(0, 0), -1);
    }

    private static void signals() {
        Check.part("promise 8: NONE: no such ones");
        LeverFrame x = Check.laid(Check.FULL);
        int[] want = {7, 0, 0, 640};
        for (int what = 0; what < 4; what++) {
            Check.due("the last", x.signal(7, what), want[what]);
        }
        Check.due("one more", x.signal(8, 0), -1);
        Check.due("one more question", x.signal(0, 4), -1);
        for (int no : NEVER) {
            for (int what = 0; what < 4; what++) {
                Check.due("no signal", x.signal(no, what), -1);
            }
            Check.due("no question", x.signal(7, no), -1);
        }
        Check.due("none at all", new LeverFrame().signal(0, 0), -1);
        Check.part("promise 8: 2 off (one of its ROUTES is SET: 1, 0)");
        x.turn(5);
        x.set(9);
        Check.due("by its last route", x.signal(7, 2), 1);
        Check.due("by no other's", x.signal(6, 2), 0);
        x.back(9);
        Check.due("held is not set", x.signal(7, 2), 0);
        LeverFrame y = Check.laid(PAIR + "signal k a up;train t a down;");
        y.set(0);
        y.ticks(2);
        Check.due("used is not set", y.signal(0, 2), 0);
        Check.due("no routes", y.signal(2, 2), 0);
        Check.due("no routes", y.signal(2, 3), 0);
    }

    private static void routes() {
        Check.part("promise 9: NONE, too: no such ones");
        LeverFrame x = Check.laid(Check.FULL);
        dueRow("the last", route(x, 9), 7, 0, 6, 0, 385, 0, 32, 0, -1);
        dueRow("the one ahead", route(x, 8), 6, 0, 6, 0, 704, 0, 32, 0, -1);
        dueRow("the first", route(x, 0), 0, 0, 1, 0, 512, 0, 0, 0, -1);
        Check.due("one more", x.route(10, 0), -1);
        Check.due("one more question", x.route(0, 9), -1);
        for (int no : NEVER) {
            for (int what = 0; what < 9; what++) {
                Check.due("no route", x.route(no, what), -1);
            }
            Check.due("no question", x.route(9, no), -1);
        }
        Check.due("none at all", new LeverFrame().route(0, 0), -1);
        Check.part("promise 9: 7 TICKS for which it is HELD yet (0), 8 the TRAIN by which it is USED (NONE)");
        x.turn(5);
        x.set(9);
        dueRow("set", route(x, 9), 7, 1, 6, 0, 385, 0, 32, 0, -1);
        x.back(9);
        dueRow("held", route(x, 9), 7, 3, 6, 0, 385, 0, 32, 30, -1);
        x.ticks(29);
        Check.due("held yet", x.route(9, 7), 1);
        x.ticks(1);
        dueRow("free", route(x, 9), 7, 0, 6, 0, 385, 0, 32, 0, -1);
        x.set(9);
        x.ticks(1);
        dueRow("used", route(x, 9), 7, 2, 6, 0, 385, 0, 32, 0, 4);
    }

    private static void overs() {
        Check.part("promise 10: NONE: none such, no such one");
        LeverFrame x = Check.laid(Check.FULL);
        int[] want = {8, 9, 10, 11, 0, 1};
        for (int k = 0; k < 6; k++) {
            Check.due("of the last", x.over(9, k), want[k]);
        }
        Check.due("a seventh", x.over(9, 6), -1);
        Check.due("the only one", x.over(0, 0), 1);
        Check.due("a second", x.over(0, 1), -1);
        Check.due("one more route", x.over(10, 0), -1);
        for (int no : NEVER) {
            Check.due("no route", x.over(no, 0), -1);
            Check.due("none such", x.over(9, no), -1);
            Check.due("none such of the one ahead of the first's", x.over(0, no), -1);
        }
        LeverFrame none = Check.laid(PAIR + "route n g;");
        Check.due("of a route without sections", none.over(2, 0), -1);
        Check.due("none at all", new LeverFrame().over(0, 0), -1);
    }

    private static void trains() {
        Check.part("promise 11: NoSuchElementException: no such ones");
        LeverFrame x = Check.laid(Check.FULL);
        dueRow("the last", train(x, 4), 7, 0, 0, 0, 0, 0, 0);
        Check.due("one more", Check.train(x, 5, 0), Check.THROWS);
        Check.due("one more question", Check.train(x, 0, 7), Check.THROWS);
        for (int no : NEVER) {
            for (int what = 0; what < 7; what++) {
                Check.due("no train", Check.train(x, no, what), Check.THROWS);
            }
            Check.due("no question", Check.train(x, 4, no), Check.THROWS);
        }
        Check.due("none at all", Check.train(new LeverFrame(), 0, 0), Check.THROWS);
        x.turn(5);
        x.set(9);
        x.ticks(1);
        dueRow("the last uses the last", train(x, 4), 8, 0, 0, 0, 0, 0, 512);
        Check.part("promise 11: 4: whose LONG is not over, who is OUT or CRASHED, and ahead of any TICK: 0");
        dueRow("the first waits", train(x, 0), 2, 0, 1, 0, 1, 1, 0);
        LeverFrame y = Check.laid("section a 2;section b 1;section c 1;section d 1;track a b;track c d;signal g b down;signal h a up;"
                + "train t a up;train u b down;train v c up;train w d down;");
        for (int t = 0; t < 4; t++) {
            Check.due("ahead of any tick", Check.train(y, t, 4), 0);
        }
        y.ticks(1);
        Check.due("LONG is not over", Check.train(y, 0, 4), 0);
        Check.due("it is", Check.train(y, 1, 4), 1);
        Check.due("out", Check.train(y, 2, 4) + Check.train(y, 3, 4), 0);
        y.ticks(1);
        Check.due("over now", Check.train(y, 0, 4), 1);
        y.undo();
        Check.due("as it was", Check.train(y, 0, 4), 0);
        y.undo();
        Check.due("ahead of any again", Check.train(y, 1, 4), 0);
        // One that waited, and is run into later in the same tick or in the next one.
        LeverFrame z = Check.laid("section a 2;section b 1;track a b;signal g b down;train t b down;train u a down;");
        z.ticks(1);
        dueRow("waits", train(z, 0), 1, 0, 1, 0, 1, 1, 0);
        z.ticks(1);
        dueRow("crashed", train(z, 0), 1, 0, 2, 1, 0, 2, 0);
        dueRow("crashed, too", train(z, 1), 1, 0, 0, 1, 0, 0, 0);
    }

    private static void throwsChangeNothing() {
        Check.part("A call that throws changes nothing");
        LeverFrame x = Check.laid(Check.JUNCTION);
        x.set(0);
        x.ticks(2);
        Check.sentence(x, "in j");
        Check.tape(x, "abc");
        x.tag(1);
        int[] before = now(x);
        for (int no : NEVER) {
            Check.due("throws", Check.train(x, no, 0), Check.THROWS);
            Check.due("throws", Check.train(x, 0, no), Check.THROWS);
            Check.due("throws", Check.mean(x, no), Check.THROWS);
        }
        dueRow("now", now(x), before);
        Check.due("the tape", x.count(8), 3);
        Check.due("the sentence", x.said(0), 0);
        Check.due("the tag", x.byteAt(0), 'b');
        Check.due("the fault", x.fault(), 0);
        Check.due("what can be undone", x.undo(), 1);
        LeverFrame none = new LeverFrame();
        Check.due("throws", Check.mean(none, 0), Check.THROWS);
        Check.due("throws", Check.train(none, 0, 0), Check.THROWS);
        dueRow("now", now(none), 0, 0, 0, 0, 0, 0, 0);
    }

    private static void now() {
        Check.part("promise 12: NONE for another what");
        LeverFrame x = Check.laid(Check.FULL);
        x.turn(5);
        x.set(9);
        x.fail(11, 1);
        dueRow("the highest bits", now(x), 0, 4 + 8 + 16 + 32 + 128 + 2048, 512, 32, 0, 0, 0);
        x.ticks(1);
        dueRow("behind a tick", now(x), 1, 4 + 8 + 16 + 32 + 256 + 2048, 512, 32, 0, 0, 0);
        Check.due("one more", x.now(7), -1);
        for (int no : NEVER) {
            Check.due("another", x.now(no), -1);
            Check.due("another", new LeverFrame().now(no), -1);
        }
        StringBuilder ends = new StringBuilder(Check.times(5, "section s# 1;"));
        for (char c = 'a'; c < 'f'; c++) {
            ends.append("train t").append(c).append(" s").append(c).append(" up;");
        }
        LeverFrame out = Check.laid(ends.toString());
        out.ticks(1);
        Check.due("all out", out.now(4), 31);
        Check.due("none shows", out.now(1), 0);
    }

    private static void noSuchActs() {
        Check.part("promises 13 to 17: NONE: no such one");
        LeverFrame x = Check.laid(Check.FULL);
        int[] before = now(x);
        for (int no : new int[] {-1, Integer.MIN_VALUE, Integer.MAX_VALUE, 10, 32}) {
            Check.due("set", x.set(no), -1);
            Check.due("back", x.back(no), -1);
        }
        for (int no : new int[] {-1, Integer.MIN_VALUE, Integer.MAX_VALUE, 6, 32}) {
            Check.due("turn", x.turn(no), -1);
        }
        for (int no : new int[] {-1, Integer.MIN_VALUE, Integer.MAX_VALUE, 12, 32}) {
            Check.due("fail", x.fail(no, 0), -1);
            Check.due("fail", x.fail(no, 1), -1);
            Check.due("mend", x.mend(no), -1);
        }
        dueRow("nothing is done", now(x), before);
        Check.due("nothing to undo", x.undo(), -1);
        Check.due("the last points", x.turn(5), 0);
        Check.due("the last route", x.set(9), 0);
        Check.due("the last section", x.fail(11, 1), 0);
        Check.due("mended", x.mend(11), 0);
        Check.due("the last route", x.back(9), 0);
        LeverFrame none = new LeverFrame();
        Check.due("none at all", none.set(0) + none.back(0) + none.turn(0) + none.fail(0, 0) + none.mend(0), -5);
    }

    private static void refusedActs() {
        Check.part("promises 13 to 17: why not, and what stands afterwards");
        LeverFrame x = Check.laid(Check.JUNCTION + "route e ms;");
        x.fail(1, 1);
        x.fail(3, 0);
        int[] before = now(x);
        Check.due("points", x.set(1), 3);
        Check.due("full", x.set(0), 4);
        Check.due("none", x.set(4), 5);
        Check.due("not set", x.back(0), 1);
        Check.due("full", x.turn(0), 1);
        Check.due("so", x.fail(1, 1), 1);
        Check.due("so", x.fail(3, 0), 1);
        Check.due("does not fail", x.mend(0), 1);
        dueRow("nothing is done", now(x), before);
        Check.due("two can be undone", x.undo(), 1);
        Check.due("b", x.section(3, 3), 0);
        Check.due("j", x.section(1, 3), 2);
    }

    private static void sideOfFail() {
        Check.part("promise 16: A SECTION FAILS clear (full 0) or full (1); NONE: no such ones");
        LeverFrame x = Check.laid("section a 1;");
        for (int no : new int[] {-1, 2, 3, Integer.MIN_VALUE, Integer.MAX_VALUE, 256, -2}) {
            Check.due("no such side", x.fail(0, no), -1);
            Check.due("neither such", x.fail(1, no), -1);
            Check.due("it does not fail", x.section(0, 3), 0);
        }
        Check.due("clear", x.fail(0, 0), 0);
        Check.due("no such side", x.fail(0, 2), -1);
        Check.due("as it was", x.section(0, 3), 1);
        Check.due("full", x.fail(0, 1), 0);
        Check.due("two can be undone", x.undo(), 1);
    }

    private static void ticksAsTold() {
        Check.part("promise 18: n (1 to 60) TICKS go by: how many did; NONE: not as told");
        LeverFrame x = Check.laid(Check.JUNCTION);
        for (int no : new int[] {0, -1, -60, 61, 62, 1000, Integer.MIN_VALUE, Integer.MAX_VALUE}) {
            Check.due("not as told", x.ticks(no), -1);
            Check.due("none went by", x.now(0), 0);
            Check.due("nothing to undo", x.undo(), -1);
        }
        Check.due("one", x.ticks(1), 1);
        Check.due("sixty", x.ticks(60), 60);
        Check.due("tick", x.now(0), 61);
        runTo(x, 999);
        Check.due("fewer are left", x.ticks(2), 1);
        Check.due("none is left", x.ticks(2), 0);
    }

    private static void undoEach() {
        Check.part("promise 19: The latest of set(), back(), turn(), fail(), mend() that was done, ticks(), drawn(), a BOOK is undone");
        LeverFrame x = Check.laid(Check.JUNCTION);
        int[] at = now(x);
        x.set(0);
        Check.due("set()", x.undo(), 0);
        dueRow("as it was", now(x), at);
        x.turn(0);
        Check.due("turn()", x.undo(), 0);
        dueRow("as it was", now(x), at);
        x.fail(2, 1);
        Check.due("fail()", x.undo(), 0);
        dueRow("as it was", now(x), at);
        x.fail(2, 1);
        x.fail(2, 0);
        Check.due("fail() to the other side", x.undo(), 1);
        Check.due("full", x.section(2, 3), 2);
        x.mend(2);
        Check.due("mend()", x.undo(), 1);
        Check.due("full", x.section(2, 3), 2);
        Check.due("fail()", x.undo(), 0);
        x.set(0);
        x.back(0);
        Check.due("back()", x.undo(), 1);
        Check.due("set", x.route(0, 1), 1);
        Check.due("for", x.route(0, 7), 0);
        x.back(0);
        x.ticks(1);
        Check.due("held for one yet", x.route(0, 7), 1);
        Check.due("judged", Check.book(x, "tick 1;set rm;tick 1;", 0), -1);
        Check.due("held for one yet", x.route(0, 7), 1);
        Check.due("ticks()", x.undo(), 2);
        Check.due("held for two again", x.route(0, 7), 2);
        Check.due("nobody comes", x.comes(0, 1), -1);
        Check.due("held for two yet", x.route(0, 7), 2);
        Check.due("back()", x.undo(), 1);
        x.ticks(60);
        Check.due("ticks()", x.undo(), 1);
        Check.due("tick", x.now(0), 0);
        Check.due("ann", Check.train(x, 0, 0), 0);
        x.drawn(60, 3);
        Check.due("drawn()", x.undo(), 1);
        Check.due("set", x.route(0, 1), 1);
        Check.book(x, "tick 2;fail m full;tick 3;back ub;", 1);
        Check.due("a BOOK of which some LINE was lived", x.undo(), 1);
        Check.due("tick", x.now(0) + x.section(2, 3), 0);
        Check.due("set()", x.undo(), 0);
        dueRow("as it was", now(x), at);
        Check.due("none", x.undo(), -1);
    }

    private static void undoEightAtMost() {
        Check.part("promise 19: how many more can be (8 at most are kept)");
        for (int acts = 0; acts <= 20; acts++) {
            LeverFrame x = Check.laid("section a 30;");
            for (int i = 0; i < acts; i++) {
                x.ticks(1);
            }
            int kept = Math.min(8, acts);
            for (int left = kept - 1; left >= 0; left--) {
                Check.due("of " + acts, x.undo(), left);
                Check.due("tick", x.now(0), acts - kept + left);
            }
            Check.due("none of " + acts, x.undo(), -1);
            Check.due("tick", x.now(0), acts - kept);
        }
        LeverFrame x = Check.laid("section a 30;");
        for (int i = 0; i < 8; i++) {
            x.ticks(1);
        }
        Check.due("undone", x.undo(), 7);
        Check.due("undone", x.undo(), 6);
        Check.due("undone", x.undo(), 5);
        for (int i = 0; i < 4; i++) {
            x.fail(0, i % 2);
        }
        for (int left = 7; left >= 4; left--) {
            Check.due("the four", x.undo(), left);
        }
        Check.due("does not fail", x.section(0, 3), 0);
        Check.due("tick", x.now(0), 5);
        for (int left = 3; left >= 0; left--) {
            Check.due("the elder ones", x.undo(), left);
            Check.due("tick", x.now(0), left + 1);
        }
        Check.due("the eldest gave way", x.undo(), -1);
        Check.due("tick", x.now(0), 1);
        // With as many kept as may be, what is refused leaves each of them.
        LeverFrame y = Check.laid("section a 30;");
        for (int i = 0; i < 11; i++) {
            y.ticks(1);
        }
        Check.due("refused", y.mend(0), 1);
        Check.due("refused", y.ticks(61), -1);
        Check.due("wrong", Check.book(y, "mend a;", 1), 0);
        for (int left = 7; left >= 0; left--) {
            Check.due("each is kept", y.undo(), left);
            Check.due("tick", y.now(0), left + 3);
        }
    }

    private static void undoNone() {
        Check.part("promise 19: NONE: none is");
        LeverFrame x = new LeverFrame();
        Check.due("a new object", x.undo(), -1);
        Check.layout(x, Check.JUNCTION);
        x.ticks(61);
        x.drawn(61, 1);
        x.set(1);
        x.set(9);
        x.back(0);
        x.turn(1);
        x.fail(4, 0);
        x.mend(0);
        Check.book(x, "set rb;tick 5;", 1);
        Check.book(x, "tick 5;", 0);
        Check.book(x, "tick 5;tick 0;", 1);
        Check.book(x, "", 1);
        Check.sentence(x, "out");
        x.image(0);
        x.odds(5, 1);
        x.comes(0, 1);
        x.meet();
        x.pulls(1);
        Check.due("nothing was done", x.undo(), -1);
        x.ticks(5);
        x.restore(0);
        Check.due("behind restore()", x.undo(), -1);
        x.ticks(5);
        Check.due("behind a restore() of nothing", x.restore(1) ? -5 : x.undo(), 0);
        x.ticks(5);
        Check.layout(x, Check.JUNCTION);
        Check.due("behind a new layout", x.undo(), -1);
        runTo(x, 1000);
        for (int i = 0; i < 8; i++) {
            x.undo();
        }
        Check.due("none", x.undo(), -1);
        runTo(x, 1000);
        int kept = 0;
        for (int i = 0; i < 9 && x.undo() >= 0; i++) {
            kept++;
        }
        runTo(x, 1000);
        x.ticks(1);
        x.drawn(1, 1);
        Check.due("ticks() of 0 is none", kept, 8);
        Check.due("the latest above 0", x.undo() >= 0 && x.now(0) < 1000, true);
    }
}
