import java.util.NoSuchElementException;

/** What the tests by hand share: texts put on the tape, and answers held against those due. */
final class Check {
    /** The junction of the examples: w splits at j into m (normal) and b (reverse). */
    static final String JUNCTION = "section w 2;section j 1;section m 3;section b 2;points p j;"
            + "track w j;track j m p normal;track j b p reverse;"
            + "signal ws w down;signal ms m up;signal bs b up;"
            + "route rm ws;over rm j;over rm m;route rb ws;over rb j;over rb b;"
            + "route um ms;over um j;over um w;route ub bs;over ub j;over ub w;"
            + "lock rm um;lock rb ub;lock um ub;train ann w down;train bob b up;hold 2;";
    /**
     * As many of each sort as there may be: twelve sections in a ring, a signal down in each of the
     * first eight, routes from each to the next, and two of six sections each (ri, rj) that need
     * the last points (r) reverse; all trains wait at signals, the last (te) at that of rj.
     */
    static final String FULL = "section a 1;section b 1;section c 1;section d 1;section e 1;section f 1;"
            + "section g 1;section h 1;section i 1;section j 1;section k 1;section l 30;"
            + "points m a;points n a;points o b;points p b;points q c;points r k;"
            + "track a b;track b c;track c d;track d e;track e f;track f g;track g h;track h i;track i j;"
            + "track j k;track k l r reverse;track l a;track a c m reverse;track a d n reverse;"
            + "track b d o reverse;track b e p normal;"
            + "signal s a down;signal t b down;signal u c down;signal v d down;signal w e down;"
            + "signal x f down;signal y g down;signal z h down;"
            + "route ra s;over ra b;route rb t;over rb c;route rc u;over rc d;route rd v;over rd e;"
            + "route re w;over re f;route rf x;over rf g;route rg y;over rg h;route rh z;over rh i;"
            + "route ri y;over ri h;over ri i;over ri j;over ri k;over ri l;over ri a;"
            + "route rj z;over rj i;over rj j;over rj k;over rj l;over rj a;over rj b;"
            + "train ta c down;train tb d down;train tc e down;train td f down;train te h down;hold 30;";
    static final int THROWS = Integer.MIN_VALUE;

    private static int wrong = 0;
    private static int asked = 0;
    private static String part = "";

    private Check() {
    }

    static void part(String name) {
        part = name;
    }

    static void due(String what, int got, int want) {
        asked++;
        if (got != want) {
            wrong++;
            System.out.println(part + ": " + what + " answered " + got + ", due is " + want);
        }
    }

    static void due(String what, boolean got, boolean want) {
        due(what, got ? 1 : 0, want ? 1 : 0);
    }

    static void tape(LeverFrame x, String text) {
        x.end(0);
        for (int at = 0; at < text.length(); at += 20) {
            int[] five = new int[5];
            for (int i = 0; i < 20; i++) {
                int c = at + i < text.length() ? text.charAt(at + i) : 0;
                five[i / 4] |= c << 24 - i % 4 * 8;
            }
            x.feed(five[0], five[1], five[2], five[3], five[4]);
        }
        due("end of \"" + text + "\"", x.end(text.length()), true);
    }

    static void tape(LeverFrame x, int... bytes) {
        StringBuilder text = new StringBuilder();
        for (int b : bytes) {
            text.append((char) b);
        }
        tape(x, text.toString());
    }

    static LeverFrame laid(String text) {
        LeverFrame x = new LeverFrame();
        tape(x, text);
        if (x.layout() < 0) {
            due("layout of \"" + text + "\"", -1, 0);
        }
        return x;
    }

    static int layout(LeverFrame x, String text) {
        tape(x, text);
        return x.layout();
    }

    static int book(LeverFrame x, String text, int lives) {
        tape(x, text);
        return x.book(lives);
    }

    static int sentence(LeverFrame x, String text) {
        tape(x, text);
        return x.sentence();
    }

    /** A faulty text with '^' ahead of the token at fault. */
    static void badLayout(String marked, int kind) {
        LeverFrame x = laid("section keep 4;");
        due("layout \"" + marked + "\"", layout(x, unmarked(marked)), -1 - marked.indexOf('^'));
        due("fault of \"" + marked + "\"", x.fault(), kind);
        due("bytes left of \"" + marked + "\"", x.count(8), 0);
        due("the layout that stays", x.section(0, 0), 4);
    }

    static void badBook(LeverFrame x, String marked, int kind) {
        due("book \"" + marked + "\"", book(x, unmarked(marked), 1), -2 - marked.indexOf('^'));
        due("fault of \"" + marked + "\"", x.fault(), kind);
        due("bytes left of \"" + marked + "\"", x.count(8), 0);
    }

    static void badSentence(LeverFrame x, String marked, int kind) {
        due("sentence \"" + marked + "\"", sentence(x, unmarked(marked)), -1 - marked.indexOf('^'));
        due("fault of \"" + marked + "\"", x.fault(), kind);
        due("bytes left of \"" + marked + "\"", x.count(8), 0);
    }

    private static String unmarked(String marked) {
        int at = marked.indexOf('^');
        return marked.substring(0, at) + marked.substring(at + 1);
    }

    static int train(LeverFrame x, int t, int what) {
        try {
            return x.train(t, what);
        } catch (NoSuchElementException e) {
            return THROWS;
        }
    }

    static int mean(LeverFrame x, int what) {
        try {
            return x.mean(what);
        } catch (NoSuchElementException e) {
            return THROWS;
        }
    }

    static String tag(LeverFrame x, int t) {
        int size = x.tag(t);
        StringBuilder text = new StringBuilder();
        for (int i = 0; i < size; i++) {
            text.append((char) x.byteAt(i));
        }
        return text.toString();
    }

    static void dueText(String what, String got, String want) {
        asked++;
        if (!got.equals(want)) {
            wrong++;
            System.out.println(part + ": " + what + " answered \"" + got + "\", due is \"" + want + "\"");
        }
    }

    /** So many times a text, '#' standing for letters that go on from a. */
    static String times(int n, String text) {
        StringBuilder all = new StringBuilder();
        for (int i = 0; i < n; i++) {
            all.append(text.replace("#", "" + (char) ('a' + i)));
        }
        return all.toString();
    }

    static String blanks(int n) {
        return times(n, " ");
    }

    static void finish(String name) {
        System.out.println(name + ": " + asked + " answers, " + wrong + " not as due");
        if (wrong != 0) {
            System.exit(1);
        }
    }
}
