/** Promises 6 to 19: what is there, what can be done, how ticks go, and acts undone. */
public final class RunTest {
    private static final int[] EDGES = {-1, Integer.MIN_VALUE, Integer.MAX_VALUE, 100};

    private RunTest() {
    }

    public static void main(String[] args) {
        sections();
        points();
        signals();
        routes();
        trains();
        now();
        setting();
        settingOneOfSignal();
        puttingBack();
        throwing();
        failing();
        ticksBySignals();
        ticksByTracks();
        ticksOut();
        meeting();
        meetingTheWaiting();
        meetingTheCrashed();
        elderRoutes();
        lastTick();
        undoing();
        Check.finish("RunTest");
    }

    private static void dueAll(String what, int[] got, int... want) {
        for (int i = 0; i < want.length; i++) {
            Check.due(what + " " + i, got[i], want[i]);
        }
    }

    private static int[] section(LeverFrame x, int s) {
        int[] all = new int[6];
        for (int i = 0; i < 6; i++) {
            all[i] = x.section(s, i);
        }
        return all;
    }

    private static int[] route(LeverFrame x, int r) {
        int[] all = new int[9];
        for (int i = 0; i < 9; i++) {
            all[i] = x.route(r, i);
        }
        return all;
    }

    private static int[] train(LeverFrame x, int t) {
        int[] all = new int[7];
        for (int i = 0; i < 7; i++) {
            all[i] = Check.train(x, t, i);
        }
        return all;
    }

    private static void sections() {
        Check.part("promise 6");
        LeverFrame x = Check.laid(Check.JUNCTION);
        dueAll("w", section(x, 0), 2, 0, 1, 0, 12, 0);
        dueAll("j", section(x, 1), 1, -1, 0, 0, 15, 1);
        dueAll("m", section(x, 2), 3, -1, 0, 0, 1, 0);
        dueAll("b", section(x, 3), 2, 1, 1, 0, 2, 0);
        for (int no : EDGES) {
            Check.due("no section", x.section(no, 0), -1);
            Check.due("no question", x.section(0, no), -1);
        }
        Check.due("no fifth section", x.section(4, 0), -1);
        Check.due("no seventh question", x.section(0, 6), -1);
        LeverFrame two = Check.laid("section a 1;points p a;points q a;section b 1;points r b;points s a;");
        Check.due("points in a", two.section(0, 5), 11);
        Check.due("points in b", two.section(1, 5), 4);
    }

    private static void points() {
        Check.part("promise 7");
        LeverFrame x = Check.laid(Check.JUNCTION);
        Check.due("section", x.points(0, 0), 1);
        Check.due("lie", x.points(0, 1), 0);
        Check.due("needed normal", x.points(0, 2), 5);
        Check.due("needed reverse", x.points(0, 3), 10);
        x.turn(0);
        Check.due("lie", x.points(0, 1), 1);
        Check.due("no such", x.points(1, 0), -1);
        Check.due("no question", x.points(0, 4), -1);
        for (int no : EDGES) {
            Check.due("no points", x.points(no, 0), -1);
            Check.due("no question", x.points(0, no), -1);
        }
        // The track out of the signal's own section counts, the one behind the route's end does not.
        LeverFrame y = Check.laid("section a 1;section b 1;section c 1;points p a;points q b;"
                + "track a b p reverse;track b c q reverse;signal g a down;route r g;over r b;");
        Check.due("p", y.points(0, 3), 1);
        Check.due("q", y.points(1, 3), 0);
    }

    private static void signals() {
        Check.part("promise 8");
        LeverFrame x = Check.laid(Check.JUNCTION);
        Check.due("section", x.signal(1, 0), 2);
        Check.due("way", x.signal(1, 1), 1);
        Check.due("way", x.signal(0, 1), 0);
        Check.due("off", x.signal(0, 2), 0);
        Check.due("routes", x.signal(0, 3), 3);
        Check.due("routes", x.signal(2, 3), 8);
        x.set(0);
        Check.due("off", x.signal(0, 2), 1);
        Check.due("another's", x.signal(1, 2), 0);
        x.ticks(2);
        Check.due("not off when its route is used", x.signal(0, 2), 0);
        Check.due("no such", x.signal(3, 0), -1);
        Check.due("no question", x.signal(0, 4), -1);
        for (int no : EDGES) {
            Check.due("no signal", x.signal(no, 0), -1);
            Check.due("no question", x.signal(0, no), -1);
        }
    }

    private static void routes() {
        Check.part("promises 9, 10");
        LeverFrame x = Check.laid(Check.JUNCTION);
        dueAll("rm", route(x, 0), 0, 0, 2, 4, 14, 1, 0, 0, -1);
        dueAll("rb", route(x, 1), 0, 0, 2, 8, 13, 0, 1, 0, -1);
        dueAll("um", route(x, 2), 1, 0, 2, 9, 11, 1, 0, 0, -1);
        dueAll("ub", route(x, 3), 2, 0, 2, 6, 7, 0, 1, 0, -1);
        x.set(0);
        Check.due("set", x.route(0, 1), 1);
        x.back(0);
        Check.due("held", x.route(0, 1), 3);
        Check.due("for", x.route(0, 7), 2);
        x.ticks(1);
        Check.due("for", x.route(0, 7), 1);
        x.ticks(1);
        Check.due("free", x.route(0, 1), 0);
        Check.due("for", x.route(0, 7), 0);
        x.set(0);
        x.ticks(1);
        Check.due("used", x.route(0, 1), 2);
        Check.due("by", x.route(0, 8), 0);
        Check.due("no question", x.route(0, 9), -1);
        for (int no : EDGES) {
            Check.due("no route", x.route(no, 0), -1);
            Check.due("no question", x.route(0, no), -1);
            Check.due("no route", x.over(no, 0), -1);
            Check.due("no section", x.over(0, no), -1);
        }
        Check.due("over rb 0", x.over(1, 0), 1);
        Check.due("over rb 1", x.over(1, 1), 3);
        Check.due("over rb 2", x.over(1, 2), -1);
        Check.due("over um 1", x.over(2, 1), 0);
        Check.due("over none", x.over(4, 0), -1);
    }

    private static void trains() {
        Check.part("promise 11");
        LeverFrame x = Check.laid(Check.JUNCTION);
        dueAll("ann", train(x, 0), 0, 0, 0, 0, 0, 0, 0);
        dueAll("bob", train(x, 1), 3, 1, 0, 0, 0, 0, 0);
        x.ticks(1);
        dueAll("ann", train(x, 0), 0, 0, 1, 0, 0, 0, 0);
        x.ticks(1);
        dueAll("ann", train(x, 0), 0, 0, 2, 0, 1, 1, 0);
        x.ticks(1);
        dueAll("ann", train(x, 0), 0, 0, 3, 0, 1, 2, 0);
        x.set(0);
        x.ticks(1);
        dueAll("ann", train(x, 0), 1, 0, 0, 0, 0, 2, 1);
        Check.due("no train", Check.train(x, 2, 0), Check.THROWS);
        Check.due("no question", Check.train(x, 0, 7), Check.THROWS);
        for (int no : EDGES) {
            Check.due("no train", Check.train(x, no, 0), Check.THROWS);
            Check.due("no question", Check.train(x, 0, no), Check.THROWS);
        }
        Check.due("a throw changes nothing", x.undo(), 4);
    }

    private static void now() {
        Check.part("promise 12");
        LeverFrame x = Check.laid(Check.JUNCTION);
        Check.due("full", x.now(1), 9);
        x.fail(1, 1);
        x.fail(3, 0);
        Check.due("full", x.now(1), 3);
        x.mend(1);
        x.turn(0);
        Check.due("reverse", x.now(3), 1);
        x.turn(0);
        x.set(0);
        Check.due("not free", x.now(2), 1);
        x.ticks(20);
        Check.due("tick", x.now(0), 20);
        Check.due("out", x.now(4), 1);
        Check.due("crashed", x.now(5), 0);
        Check.due("met", x.now(6), 0);
        Check.due("not free", x.now(2), 0);
        Check.due("no question", x.now(7), -1);
        for (int no : EDGES) {
            Check.due("no question", x.now(no), -1);
        }
    }

    private static void setting() {
        Check.part("promise 13");
        LeverFrame x = Check.laid(Check.JUNCTION);
        Check.due("no route", x.set(4), -1);
        Check.due("no route", x.set(-1), -1);
        Check.due("no route", x.set(Integer.MIN_VALUE), -1);
        Check.due("points lie otherwise, ahead of full", x.set(1), 3);
        Check.due("full", x.set(2), 4);
        Check.due("done", x.set(0), 0);
        Check.due("not free, ahead of all", x.set(0), 1);
        Check.due("another of the signal, ahead of points", x.set(1), 2);
        Check.due("locked, ahead of full", x.set(2), 2);
        Check.due("not locked: points", x.set(3), 3);
        LeverFrame y = Check.laid(Check.JUNCTION);
        y.fail(0, 0);
        Check.due("what shows clear is clear", y.set(2), 0);
        LeverFrame z = Check.laid(Check.JUNCTION);
        z.fail(2, 1);
        Check.due("what shows full is full", z.set(0), 4);
        LeverFrame none = Check.laid("section a 1;signal g a down;route r g;route s g;lock r s;");
        Check.due("no sections", none.set(0), 5);
        Check.due("it is not set", none.route(0, 1), 0);
        Check.due("nothing to undo", none.undo(), -1);
    }

    private static void settingOneOfSignal() {
        // A used route holds the others of its signal, and a held one those locked with it.
        LeverFrame x = Check.laid(Check.JUNCTION);
        x.set(0);
        x.ticks(2);
        Check.due("used", x.set(0), 1);
        Check.due("another of the signal is used", x.set(1), 2);
        LeverFrame y = Check.laid(Check.JUNCTION);
        y.fail(0, 0);
        y.set(0);
        y.back(0);
        Check.due("locked with a held one", y.set(2), 2);
        y.ticks(2);
        Check.due("free again", y.set(2), 0);
    }

    private static void puttingBack() {
        Check.part("promise 14");
        LeverFrame x = Check.laid(Check.JUNCTION);
        Check.due("no route", x.back(4), -1);
        Check.due("no route", x.back(-1), -1);
        Check.due("free", x.back(0), 1);
        x.set(0);
        Check.due("done", x.back(0), 0);
        Check.due("held by ann", x.route(0, 1), 3);
        Check.due("held is not set", x.back(0), 1);
        x.ticks(1);
        Check.due("held yet", x.route(0, 1), 3);
        x.ticks(1);
        Check.due("free", x.route(0, 1), 0);
        // bob waits in b; the route of m's signal has nobody ahead of it.
        x.fail(0, 0);
        Check.due("um", x.set(2), 0);
        Check.due("um back", x.back(2), 0);
        Check.due("free at once", x.route(2, 1), 0);
        x.set(0);
        x.ticks(1);
        Check.due("used is not set", x.back(0), 1);
        // One who goes the other way, and one who is crashed, hold nothing.
        LeverFrame y = Check.laid("section a 9;section b 1;track a b;signal g a down;route r g;over r b;train t a up;");
        y.set(0);
        y.back(0);
        Check.due("other way", y.route(0, 1), 0);
        LeverFrame z = Check.laid("section a 9;section b 1;section c 1;track a b;track c a;signal g a down;route r g;"
                + "over r b;train t a down;train u c down;");
        z.ticks(1);
        Check.due("crashed", z.now(5), 3);
        z.set(0);
        z.back(0);
        Check.due("crashed ones hold nothing", z.route(0, 1), 0);
        // Without 'hold' it is three ticks.
        LeverFrame h = Check.laid("section a 9;section b 1;track a b;signal g a down;route r g;over r b;train t a down;");
        h.set(0);
        h.back(0);
        Check.due("three", h.route(0, 7), 3);
    }

    private static void throwing() {
        Check.part("promise 15");
        LeverFrame x = Check.laid(Check.JUNCTION);
        Check.due("no points", x.turn(1), -1);
        Check.due("no points", x.turn(-1), -1);
        Check.due("done", x.turn(0), 0);
        Check.due("reverse", x.points(0, 1), 1);
        Check.due("done", x.turn(0), 0);
        Check.due("normal", x.points(0, 1), 0);
        x.set(0);
        Check.due("needed by a set one", x.turn(0), 2);
        x.fail(1, 1);
        Check.due("full is told first", x.turn(0), 1);
        x.mend(1);
        x.back(0);
        Check.due("needed by a held one", x.turn(0), 2);
        x.ticks(2);
        x.set(0);
        x.ticks(1);
        Check.due("a train is there", x.turn(0), 1);
        x.fail(1, 0);
        Check.due("needed by a used one", x.turn(0), 2);
        LeverFrame y = Check.laid(Check.JUNCTION);
        y.fail(0, 0);
        y.set(2);
        Check.due("needed", y.turn(0), 2);
    }

    private static void failing() {
        Check.part("promises 16, 17");
        LeverFrame x = Check.laid(Check.JUNCTION);
        Check.due("no section", x.fail(4, 0), -1);
        Check.due("no section", x.fail(-1, 0), -1);
        Check.due("no such failure", x.fail(0, 2), -1);
        Check.due("no such failure", x.fail(0, -1), -1);
        Check.due("no section", x.mend(4), -1);
        Check.due("no section", x.mend(-1), -1);
        Check.due("nothing to mend", x.mend(0), 1);
        Check.due("clear", x.fail(0, 0), 0);
        Check.due("so it is", x.section(0, 3), 1);
        Check.due("shows clear though ann is in it", x.section(0, 2), 0);
        Check.due("again", x.fail(0, 0), 1);
        Check.due("to the other side", x.fail(0, 1), 0);
        Check.due("so it is", x.section(0, 3), 2);
        Check.due("again", x.fail(0, 1), 1);
        Check.due("mended", x.mend(0), 0);
        Check.due("not any more", x.section(0, 3), 0);
        Check.due("full by ann", x.section(0, 2), 1);
        Check.due("full", x.fail(2, 1), 0);
        Check.due("shows full without a train", x.section(2, 2), 1);
        Check.due("back to clear", x.fail(2, 0), 0);
        Check.due("so it is", x.section(2, 3), 1);
    }

    private static void ticksBySignals() {
        Check.part("promise 18");
        LeverFrame x = Check.laid(Check.JUNCTION);
        Check.due("none", x.ticks(0), -1);
        Check.due("below", x.ticks(-5), -1);
        Check.due("too many", x.ticks(61), -1);
        Check.due("none went by", x.now(0), 0);
        x.set(0);
        Check.due("one", x.ticks(1), 1);
        Check.due("in w", Check.train(x, 0, 0), 0);
        x.ticks(1);
        Check.due("in j", Check.train(x, 0, 0), 1);
        Check.due("rm is used", x.route(0, 1), 2);
        x.ticks(1);
        Check.due("in m", Check.train(x, 0, 0), 2);
        Check.due("rm is used yet", x.route(0, 1), 2);
        x.ticks(2);
        Check.due("in m yet", Check.train(x, 0, 2), 2);
        x.ticks(1);
        Check.due("out", Check.train(x, 0, 0), -1);
        Check.due("rm is free", x.route(0, 1), 0);
        Check.due("ticks of one out", Check.train(x, 0, 2), 0);
        Check.due("bob waited", Check.train(x, 1, 5), 5);
        Check.due("bob waits", Check.train(x, 1, 4), 1);
        Check.due("sixty", x.ticks(60), 60);
    }

    private static void ticksByTracks() {
        // By the first track that leads as points lie now; waits if there are some but none leads.
        LeverFrame x = Check.laid("section a 2;section b 1;section c 1;points p a;"
                + "track a b p reverse;track a c p normal;train t a down;");
        x.ticks(2);
        Check.due("over the normal one", Check.train(x, 0, 0), 2);
        LeverFrame y = Check.laid("section a 2;section b 1;points p a;points q b;track a b q reverse;train t a down;");
        y.ticks(2);
        Check.due("in a", Check.train(y, 0, 0), 0);
        Check.due("waits", Check.train(y, 0, 4), 1);
        Check.due("b's points", y.turn(1), 0);
        y.ticks(1);
        Check.due("in b", Check.train(y, 0, 0), 1);
        Check.due("waited", Check.train(y, 0, 5), 1);
        Check.due("waits no more", Check.train(y, 0, 4), 0);
        LeverFrame first = Check.laid("section a 1;section b 1;section c 1;track a c;track a b;train t a down;");
        first.ticks(1);
        Check.due("the first told", Check.train(first, 0, 0), 2);
        LeverFrame up = Check.laid("section a 1;section b 1;track b a;train t a up;");
        up.ticks(1);
        Check.due("up from the second", Check.train(up, 0, 0), 1);
    }

    private static void ticksOut() {
        // No track that way, though there is one the other way; with a signal it waits.
        LeverFrame x = Check.laid("section a 1;section b 1;track a b;train t a up;train u b down;signal g b down;");
        x.ticks(1);
        Check.due("out", x.now(4), 1);
        Check.due("at the signal", Check.train(x, 1, 4), 1);
        Check.due("full", x.now(1), 2);
        Check.due("one out does not wait", Check.train(x, 0, 4), 0);
    }

    private static void meeting() {
        Check.part("meetings");
        LeverFrame x = Check.laid("section a 1;section b 3;section c 2;track a b;track b c;train t a down;train u c up;");
        x.ticks(1);
        Check.due("t in b", Check.train(x, 0, 0), 1);
        x.ticks(1);
        Check.due("both crashed", x.now(5), 3);
        Check.due("met", x.now(6), 1);
        Check.due("the least in b", x.section(1, 1), 0);
        Check.due("t was there one tick", Check.train(x, 0, 2), 1);
        Check.due("u for none", Check.train(x, 1, 2), 0);
        x.ticks(9);
        Check.due("t stays", Check.train(x, 0, 2), 1);
        Check.due("b is full", x.section(1, 2), 1);
        Check.due("nobody waits", Check.train(x, 0, 4) + Check.train(x, 1, 4), 0);
        Check.due("nobody waited", Check.train(x, 0, 5) + Check.train(x, 1, 5), 0);
    }

    private static void meetingTheWaiting() {
        // u waits at its signal in this very tick, then w (later) runs into it: crashed, not waiting.
        LeverFrame x = Check.laid("section a 1;section b 1;track a b;signal g b down;train u b down;train w a down;");
        x.ticks(1);
        Check.due("both", x.now(5), 3);
        Check.due("u does not wait", Check.train(x, 0, 4), 0);
        Check.due("but has waited", Check.train(x, 0, 5), 1);
        // The other way round: the one who runs goes first, and u's turn does not come.
        LeverFrame y = Check.laid("section a 1;section b 1;track a b;signal g b down;train w a down;train u b down;");
        y.ticks(1);
        Check.due("both", y.now(5), 3);
        Check.due("u has not waited", Check.train(y, 1, 5), 0);
        Check.due("u's ticks", Check.train(y, 1, 2), 0);
        // Who leaves first is not met.
        LeverFrame z = Check.laid("section a 1;section b 1;track a b;train u b down;train w a down;");
        z.ticks(1);
        Check.due("nobody", z.now(5), 0);
        Check.due("u is out", z.now(4), 1);
    }

    private static void meetingTheCrashed() {
        LeverFrame x = Check.laid("section a 1;section b 1;section c 3;track a b;track c b;signal g b down;"
                + "train t a down;train u b down;train v c down;");
        x.ticks(2);
        Check.due("two", x.now(5), 3);
        x.ticks(1);
        Check.due("all", x.now(5), 7);
        Check.due("met twice", x.now(6), 2);
    }

    private static void elderRoutes() {
        Check.part("elder routes");
        // Two routes one behind the other share no section: the first is free as soon as it is left.
        LeverFrame x = Check.laid("section a 1;section b 1;section c 1;section d 1;track a b;track b c;track c d;"
                + "signal g a down;signal h b down;route r g;over r b;over r c;route s h;over s c;over s d;train t a down;");
        x.set(0);
        x.set(1);
        x.ticks(1);
        Check.due("uses r", Check.train(x, 0, 6), 1);
        x.ticks(1);
        Check.due("in c", Check.train(x, 0, 0), 2);
        Check.due("uses both", Check.train(x, 0, 6), 3);
        x.ticks(1);
        Check.due("uses s", Check.train(x, 0, 6), 2);
        Check.due("r is free", x.route(0, 1), 0);
        x.ticks(1);
        Check.due("uses none", Check.train(x, 0, 6), 0);
        Check.due("all free", x.now(2), 0);
        // It may leave its route by tracks when points let it: the route is free then.
        LeverFrame y = Check.laid("section a 1;section b 1;section c 1;section d 1;points p b;"
                + "track a b;track b d p normal;track b c p normal;signal g a down;route r g;over r b;over r c;train t a down;");
        y.set(0);
        y.ticks(2);
        Check.due("in d", Check.train(y, 0, 0), 3);
        Check.due("r is free", y.route(0, 1), 0);
    }

    private static void lastTick() {
        Check.part("tick 1000");
        LeverFrame x = Check.laid("section a 30;section b 1;section c 1;track b a;track a c;"
                + "signal g b down;route r g;over r a;train t b down;");
        for (int i = 0; i < 16; i++) {
            Check.due("sixty", x.ticks(60), 60);
        }
        Check.due("thirty", x.ticks(30), 30);
        x.set(0);
        Check.due("book", Check.book(x, "tick 11;", 0), 0);
        Check.due("why", x.told(0), 51);
        Check.due("the tick then", x.told(2), 990);
        Check.due("ten are left", x.ticks(60), 10);
        Check.due("tick", x.now(0), 1000);
        Check.due("none are left", x.ticks(1), 0);
        Check.due("none are drawn", x.drawn(5, 1), 0);
        Check.due("t in a", Check.train(x, 0, 0), 0);
        // By what would go on it leaves a all the same: 30 less the 9 that it is there.
        Check.due("ticks there", Check.train(x, 0, 2), 9);
        Check.due("comes to c", x.comes(0, 2), 21);
        Check.due("comes not to b", x.comes(0, 1), -1);
        Check.due("undo of ten ticks alone", x.undo(), 7);
        Check.due("tick", x.now(0), 990);
        Check.due("comes to a", x.comes(0, 0), 1);
    }

    private static void undoing() {
        Check.part("promise 19");
        LeverFrame x = Check.laid(Check.JUNCTION);
        Check.due("none", x.undo(), -1);
        x.set(1);
        x.turn(9);
        x.back(0);
        x.mend(0);
        x.ticks(0);
        x.drawn(0, 1);
        Check.due("what was not done", x.undo(), -1);
        x.turn(0);
        x.fail(2, 0);
        x.mend(2);
        x.turn(0);
        x.set(0);
        x.back(0);
        x.ticks(2);
        x.drawn(1, 7);
        Check.due("eight", x.undo(), 7);
        Check.due("drawn() undone", x.now(0), 2);
        Check.due("ticks() undone", x.undo(), 6);
        Check.due("tick", x.now(0), 0);
        Check.due("held again", x.route(0, 7), 2);
        Check.due("back() undone", x.undo(), 5);
        Check.due("set again", x.route(0, 1), 1);
        Check.due("set() undone", x.undo(), 4);
        Check.due("free again", x.route(0, 1), 0);
        Check.due("turn() undone", x.undo(), 3);
        Check.due("reverse again", x.points(0, 1), 1);
        Check.due("mend() undone", x.undo(), 2);
        Check.due("fails again", x.section(2, 3), 1);
        Check.due("fail() undone", x.undo(), 1);
        Check.due("fails no more", x.section(2, 3), 0);
        Check.due("turn() undone", x.undo(), 0);
        Check.due("normal again", x.points(0, 1), 0);
        Check.due("none", x.undo(), -1);
        for (int i = 0; i < 11; i++) {
            x.ticks(1);
        }
        for (int left = 7; left >= 0; left--) {
            Check.due("eight are kept", x.undo(), left);
        }
        Check.due("no more", x.undo(), -1);
        Check.due("three stay", x.now(0), 3);
        Check.book(x, "tick 2;set rb;", 1);
        Check.due("a book of which a line was lived", x.undo(), 0);
        Check.due("tick", x.now(0), 3);
        Check.book(x, "set rb;tick 2;", 1);
        Check.due("a book of which none was", x.undo(), -1);
        Check.book(x, "tick 2;", 0);
        Check.due("a book judged", x.undo(), -1);
        Check.book(x, "", 1);
        Check.due("an empty book", x.undo(), -1);
        // A faulty layout leaves what can be undone, a sentence is no act.
        x.ticks(1);
        Check.layout(x, "hold 0;");
        Check.sentence(x, "out");
        Check.due("undone", x.undo(), 0);
        Check.due("the sentence stays", x.said(-1), 0);
    }
}
