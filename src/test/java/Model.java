import java.util.ArrayDeque;
import java.util.ArrayList;
import java.util.Arrays;
import java.util.Collections;
import java.util.Deque;
import java.util.HashMap;
import java.util.HashSet;
import java.util.List;
import java.util.Map;
import java.util.NoSuchElementException;
import java.util.Set;
import java.util.TreeSet;
import java.util.regex.Matcher;
import java.util.regex.Pattern;

/**
 * A second writing of the document, by names, sets and plain search, to hold the class against. It
 * is slow and shares no code with it on purpose.
 */
final class Model {
    static final int NONE = -1;
    static final Set<String> RESERVED = new HashSet<>(Arrays.asList(("section points track signal route over lock train "
            + "hold normal reverse down up set back throw fail clear full mend tick or and not out crashed waiting in using "
            + "ticks waited number").split(" ")));
    static final Pattern TOKEN = Pattern.compile("[a-z0-9]+|[^a-z0-9 \\n]", Pattern.DOTALL);

    /** A fault, thrown up to the reader of the whole text. */
    static final class Fault extends RuntimeException {
        private static final long serialVersionUID = 1;
        final int kind;
        final int place;

        Fault(int kind, int place) {
            super(null, null, false, false);
            this.kind = kind;
            this.place = place;
        }
    }

    static final class Tok {
        final String text;
        final int place;

        Tok(String text, int place) {
            this.text = text;
            this.place = place;
        }

        boolean isWord() {
            return text.matches("[a-z]{1,7}");
        }

        boolean isNumber() {
            return text.matches("[0-9]{1,3}");
        }

        boolean isName() {
            return isWord() && !RESERVED.contains(text);
        }
    }

    /** All tokens of a text, with one at its end whose text is empty ("!" where bytes are too many). */
    static List<Tok> tokens(String text, int most) {
        List<Tok> list = new ArrayList<>();
        Matcher m = TOKEN.matcher(text);
        while (m.find()) {
            if (m.start() < most) {
                list.add(new Tok(m.group(), m.start()));
            }
        }
        list.add(text.length() > most ? new Tok("!", most) : new Tok("", text.length()));
        return list;
    }

    static final class Section {
        String name;
        int length;
    }

    static final class Point {
        String name;
        int section;
    }

    static final class Track {
        int from;
        int to;
        int points = NONE;
        int lie;
    }

    static final class Signal {
        String name;
        int section;
        int way;
    }

    static final class Route {
        String name;
        int signal;
        List<Integer> over = new ArrayList<>();
        Map<Integer, Integer> needs = new HashMap<>();
        Set<Integer> locked = new TreeSet<>();
    }

    static final class Train {
        String name;
        int section;
        int way;
    }

    /** A layout; never changed once it is read. */
    static final class Layout {
        final List<Section> sections = new ArrayList<>();
        final List<Point> points = new ArrayList<>();
        final List<Track> tracks = new ArrayList<>();
        final List<Signal> signals = new ArrayList<>();
        final List<Route> routes = new ArrayList<>();
        final List<Train> trains = new ArrayList<>();
        final Map<String, int[]> names = new HashMap<>();
        int locks = 0;
        int hold = 0;
        int lines = 0;

        int holdTicks() {
            return hold == 0 ? 3 : hold;
        }

        int routesOfSignal(int g) {
            int bits = 0;
            for (int r = 0; r < routes.size(); r++) {
                bits |= routes.get(r).signal == g ? 1 << r : 0;
            }
            return bits;
        }

        boolean conflict(int a, int b) {
            Route x = routes.get(a);
            Route y = routes.get(b);
            if (x.signal == y.signal || !Collections.disjoint(x.over, y.over)) {
                return true;
            }
            for (Map.Entry<Integer, Integer> need : x.needs.entrySet()) {
                Integer other = y.needs.get(need.getKey());
                if (other != null && !other.equals(need.getValue())) {
                    return true;
                }
            }
            return false;
        }

        int conflicts(int r) {
            int bits = 0;
            for (int q = 0; q < routes.size(); q++) {
                bits |= q != r && conflict(r, q) ? 1 << q : 0;
            }
            return bits;
        }
    }

    static final class LayoutReader {
        final List<Tok> toks;
        int at = 0;
        final Layout lay = new Layout();

        LayoutReader(String text) {
            toks = tokens(text, 1400);
        }

        Tok take() {
            return toks.get(at++);
        }

        static Fault fault(int kind, Tok tok) {
            return new Fault(kind, tok.place);
        }

        String newName() {
            Tok t = take();
            if (!t.isName()) {
                throw fault(1, t);
            }
            if (lay.names.containsKey(t.text)) {
                throw fault(3, t);
            }
            return t.text;
        }

        int known(Tok t, int sort) {
            if (!t.isName()) {
                throw fault(1, t);
            }
            int[] thing = lay.names.get(t.text);
            if (thing == null || thing[0] != sort) {
                throw fault(3, t);
            }
            return thing[1];
        }

        int number(int low, int high) {
            Tok t = take();
            if (!t.isNumber()) {
                throw fault(1, t);
            }
            int v = Integer.parseInt(t.text);
            if (v < low || v > high) {
                throw fault(2, t);
            }
            return v;
        }

        int either(Tok t, String zero, String one) {
            if (t.text.equals(zero)) {
                return 0;
            }
            if (t.text.equals(one)) {
                return 1;
            }
            throw fault(1, t);
        }

        void room(Tok first, int have, int most) {
            if (have == most) {
                throw fault(4, first);
            }
        }

        Layout read() {
            while (!toks.get(at).text.isEmpty()) {
                line();
                Tok t = take();
                if (!t.text.equals(";")) {
                    throw fault(1, t);
                }
                lay.lines++;
            }
            return lay;
        }

        void line() {
            Tok first = take();
            switch (first.text) {
                case "section": {
                    room(first, lay.sections.size(), 12);
                    Section s = new Section();
                    s.name = newName();
                    s.length = number(1, 30);
                    lay.names.put(s.name, new int[] {0, lay.sections.size()});
                    lay.sections.add(s);
                    break;
                }
                case "points": {
                    room(first, lay.points.size(), 6);
                    Point p = new Point();
                    p.name = newName();
                    p.section = known(take(), 0);
                    lay.names.put(p.name, new int[] {1, lay.points.size()});
                    lay.points.add(p);
                    break;
                }
                case "track": {
                    room(first, lay.tracks.size(), 16);
                    track();
                    break;
                }
                case "signal": {
                    room(first, lay.signals.size(), 8);
                    Signal g = new Signal();
                    g.name = newName();
                    g.section = known(take(), 0);
                    Tok w = take();
                    g.way = either(w, "down", "up");
                    for (Signal o : lay.signals) {
                        if (o.section == g.section && o.way == g.way) {
                            throw fault(3, w);
                        }
                    }
                    lay.names.put(g.name, new int[] {3, lay.signals.size()});
                    lay.signals.add(g);
                    break;
                }
                case "route": {
                    room(first, lay.routes.size(), 10);
                    Route r = new Route();
                    r.name = newName();
                    r.signal = known(take(), 3);
                    lay.names.put(r.name, new int[] {4, lay.routes.size()});
                    lay.routes.add(r);
                    break;
                }
                case "over":
                    over();
                    break;
                case "lock": {
                    int a = known(take(), 4);
                    Tok second = take();
                    int b = known(second, 4);
                    if (a == b || lay.routes.get(a).locked.contains(b)) {
                        throw fault(3, second);
                    }
                    lay.routes.get(a).locked.add(b);
                    lay.routes.get(b).locked.add(a);
                    lay.locks++;
                    break;
                }
                case "train": {
                    room(first, lay.trains.size(), 5);
                    Train t = new Train();
                    t.name = newName();
                    Tok sec = take();
                    t.section = known(sec, 0);
                    for (Train o : lay.trains) {
                        if (o.section == t.section) {
                            throw fault(3, sec);
                        }
                    }
                    t.way = either(take(), "down", "up");
                    lay.names.put(t.name, new int[] {6, lay.trains.size()});
                    lay.trains.add(t);
                    break;
                }
                case "hold":
                    if (lay.hold != 0) {
                        throw fault(3, first);
                    }
                    lay.hold = number(1, 30);
                    break;
                default:
                    throw fault(1, first);
            }
        }

        void track() {
            Track k = new Track();
            k.from = known(take(), 0);
            Tok second = take();
            k.to = known(second, 0);
            for (Track o : lay.tracks) {
                if ((o.from == k.from && o.to == k.to) || (o.from == k.to && o.to == k.from)) {
                    throw fault(3, second);
                }
            }
            if (k.from == k.to) {
                throw fault(3, second);
            }
            if (!toks.get(at).text.equals(";")) {
                Tok pt = take();
                k.points = known(pt, 1);
                int sec = lay.points.get(k.points).section;
                if (sec != k.from && sec != k.to) {
                    throw fault(3, pt);
                }
                k.lie = either(take(), "normal", "reverse");
            }
            lay.tracks.add(k);
        }

        void over() {
            Tok rt = take();
            Route r = lay.routes.get(known(rt, 4));
            if (r.over.size() == 6) {
                throw fault(4, rt);
            }
            Tok st = take();
            int s = known(st, 0);
            Signal g = lay.signals.get(r.signal);
            int from = r.over.isEmpty() ? g.section : r.over.get(r.over.size() - 1);
            Track by = null;
            for (Track k : lay.tracks) {
                if (g.way == 0 && k.from == from && k.to == s || g.way == 1 && k.to == from && k.from == s) {
                    by = k;
                }
            }
            if (by == null || r.over.contains(s) || g.section == s) {
                throw fault(3, st);
            }
            if (by.points != NONE) {
                Integer old = r.needs.get(by.points);
                if (old != null && old != by.lie) {
                    throw fault(3, st);
                }
                r.needs.put(by.points, by.lie);
            }
            r.over.add(s);
        }
    }

    /** What is so; copied whole wherever something is tried. */
    static final class World implements Cloneable {
        Layout lay;
        int tick = 0;
        int meets = 0;
        int[] fails;
        int[] lies;
        String[] how;
        int[] held;
        int[] user;
        int[] where;
        int[] stay;
        boolean[] crashed;
        boolean[] waits;
        int[] waited;

        World(Layout lay) {
            this.lay = lay;
            fails = new int[lay.sections.size()];
            lies = new int[lay.points.size()];
            how = new String[lay.routes.size()];
            Arrays.fill(how, "free");
            held = new int[how.length];
            user = new int[how.length];
            where = new int[lay.trains.size()];
            for (int t = 0; t < where.length; t++) {
                where[t] = lay.trains.get(t).section;
            }
            stay = new int[where.length];
            crashed = new boolean[where.length];
            waits = new boolean[where.length];
            waited = new int[where.length];
        }

        World copy() {
            try {
                World w = (World) clone();
                w.fails = fails.clone();
                w.lies = lies.clone();
                w.how = how.clone();
                w.held = held.clone();
                w.user = user.clone();
                w.where = where.clone();
                w.stay = stay.clone();
                w.crashed = crashed.clone();
                w.waits = waits.clone();
                w.waited = waited.clone();
                return w;
            } catch (CloneNotSupportedException e) {
                throw new AssertionError(e);
            }
        }

        boolean trainIn(int s) {
            for (int at : where) {
                if (at == s) {
                    return true;
                }
            }
            return false;
        }

        boolean shows(int s) {
            return fails[s] == 2 || trainIn(s) && fails[s] != 1;
        }

        boolean free(int r) {
            return how[r].equals("free");
        }

        int set(int r) {
            Route x = lay.routes.get(r);
            if (!free(r)) {
                return 1;
            }
            for (int q = 0; q < how.length; q++) {
                if (q != r && !free(q) && (x.locked.contains(q) || lay.routes.get(q).signal == x.signal)) {
                    return 2;
                }
            }
            for (Map.Entry<Integer, Integer> need : x.needs.entrySet()) {
                if (lies[need.getKey()] != need.getValue()) {
                    return 3;
                }
            }
            for (int s : x.over) {
                if (shows(s)) {
                    return 4;
                }
            }
            if (x.over.isEmpty()) {
                return 5;
            }
            how[r] = "set";
            return 0;
        }

        int back(int r) {
            if (!how[r].equals("set")) {
                return 1;
            }
            Signal g = lay.signals.get(lay.routes.get(r).signal);
            how[r] = "free";
            for (int t = 0; t < where.length; t++) {
                if (!crashed[t] && where[t] == g.section && lay.trains.get(t).way == g.way) {
                    how[r] = "held";
                    held[r] = lay.holdTicks();
                }
            }
            return 0;
        }

        int turn(int p) {
            if (shows(lay.points.get(p).section)) {
                return 1;
            }
            for (int r = 0; r < how.length; r++) {
                if (!free(r) && lay.routes.get(r).needs.containsKey(p)) {
                    return 2;
                }
            }
            lies[p] = 1 - lies[p];
            return 0;
        }

        int fail(int s, int full) {
            if (fails[s] == full + 1) {
                return 1;
            }
            fails[s] = full + 1;
            return 0;
        }

        int mend(int s) {
            if (fails[s] == 0) {
                return 1;
            }
            fails[s] = 0;
            return 0;
        }

        void tick() {
            for (int t = 0; t < where.length; t++) {
                waits[t] = false;
            }
            for (int t = 0; t < where.length; t++) {
                if (where[t] == NONE || crashed[t]) {
                    continue;
                }
                stay[t]++;
                if (stay[t] < lay.sections.get(where[t]).length) {
                    continue;
                }
                if (!goOn(t)) {
                    waits[t] = true;
                    waited[t]++;
                }
            }
            for (int r = 0; r < how.length; r++) {
                if (how[r].equals("held") && --held[r] == 0) {
                    how[r] = "free";
                }
            }
            tick++;
        }

        boolean goOn(int t) {
            int way = lay.trains.get(t).way;
            int here = where[t];
            Integer to = null;
            boolean signalled = false;
            boolean tracks = false;
            for (int g = 0; g < lay.signals.size(); g++) {
                Signal sig = lay.signals.get(g);
                if (sig.section != here || sig.way != way) {
                    continue;
                }
                signalled = true;
                for (int r = 0; r < how.length; r++) {
                    if (lay.routes.get(r).signal == g && how[r].equals("set")) {
                        how[r] = "used";
                        user[r] = t;
                        to = lay.routes.get(r).over.get(0);
                    }
                }
            }
            if (!signalled) {
                for (Track k : lay.tracks) {
                    int start = way == 0 ? k.from : k.to;
                    if (start == here) {
                        tracks = true;
                        if (to == null && (k.points == NONE || lies[k.points] == k.lie)) {
                            to = way == 0 ? k.to : k.from;
                        }
                    }
                }
                if (!tracks) {
                    to = NONE;
                }
            }
            if (to == null) {
                return false;
            }
            boolean met = to != NONE && trainIn(to);
            where[t] = to;
            stay[t] = 0;
            if (met) {
                meets++;
                for (int o = 0; o < where.length; o++) {
                    if (where[o] == to) {
                        crashed[o] = true;
                        waits[o] = false;
                    }
                }
            }
            for (int r = 0; r < how.length; r++) {
                if (how[r].equals("used") && user[r] == t && !lay.routes.get(r).over.contains(to)) {
                    how[r] = "free";
                }
            }
            return true;
        }

        int drawn(int n, int seed) {
            int[] x = {seed};
            int gone = 0;
            for (; gone < n && tick < 1000; gone++) {
                int lot = draw(x, 4);
                if (lot <= 1 && how.length > 0) {
                    int r = draw(x, how.length);
                    if (how[r].equals("set")) {
                        back(r);
                    } else {
                        set(r);
                    }
                }
                if (lot == 2 && lies.length > 0) {
                    turn(draw(x, lies.length));
                }
                tick();
            }
            return gone;
        }

        static int draw(int[] x, int n) {
            x[0] = (int) (x[0] * 1103515245L + 12345L);
            return (int) (((x[0] & 0xffffffffL) >> 8) % n);
        }

        int bits(int n, java.util.function.IntPredicate p) {
            int b = 0;
            for (int i = 0; i < n; i++) {
                b |= p.test(i) ? 1 << i : 0;
            }
            return b;
        }

        int notFree() {
            return bits(how.length, r -> !free(r));
        }
    }

    /** A sentence as a tree. */
    interface Cond {
        boolean holds(World w, int t);
    }

    static final class SentenceReader {
        final List<Tok> toks;
        final Layout lay;
        int at = 0;
        int ones = 0;

        SentenceReader(String text, Layout lay) {
            toks = tokens(text, 200);
            this.lay = lay;
        }

        Cond read() {
            Cond c = cond(1);
            if (!toks.get(at).text.isEmpty()) {
                throw LayoutReader.fault(1, toks.get(at));
            }
            return c;
        }

        Cond cond(int depth) {
            Cond c = all(depth);
            while (toks.get(at).text.equals("or")) {
                at++;
                Cond a = c;
                Cond b = all(depth);
                c = (w, t) -> a.holds(w, t) || b.holds(w, t);
            }
            return c;
        }

        Cond all(int depth) {
            Cond c = one(depth);
            while (toks.get(at).text.equals("and")) {
                at++;
                Cond a = c;
                Cond b = one(depth);
                c = (w, t) -> a.holds(w, t) && b.holds(w, t);
            }
            return c;
        }

        int named(int sort) {
            Tok n = toks.get(at++);
            if (!n.isName()) {
                throw LayoutReader.fault(1, n);
            }
            int[] thing = lay.names.get(n.text);
            if (thing == null || thing[0] != sort) {
                throw LayoutReader.fault(3, n);
            }
            return thing[1];
        }

        Cond one(int depth) {
            Tok first = toks.get(at++);
            List<String> starts = Arrays.asList("not", "(", "out", "crashed", "waiting", "in", "using", "ticks", "waited", "number");
            if (!starts.contains(first.text)) {
                throw LayoutReader.fault(1, first);
            }
            if (++ones > 20 || depth > 8) {
                throw LayoutReader.fault(4, first);
            }
            switch (first.text) {
                case "not": {
                    Cond c = one(depth + 1);
                    return (w, t) -> !c.holds(w, t);
                }
                case "(": {
                    Cond c = cond(depth + 1);
                    Tok close = toks.get(at++);
                    if (!close.text.equals(")")) {
                        throw LayoutReader.fault(1, close);
                    }
                    return c;
                }
                case "out":
                    return (w, t) -> w.where[t] == NONE;
                case "crashed":
                    return (w, t) -> w.crashed[t];
                case "waiting":
                    return (w, t) -> w.waits[t];
                case "in": {
                    int s = named(0);
                    return (w, t) -> w.where[t] == s;
                }
                case "using": {
                    int r = named(4);
                    return (w, t) -> w.how[r].equals("used") && w.user[r] == t;
                }
                default:
                    return compare(first.text);
            }
        }

        Cond compare(String what) {
            Tok sign = toks.get(at++);
            if (!sign.text.matches("[<=>]")) {
                throw LayoutReader.fault(1, sign);
            }
            Tok num = toks.get(at++);
            if (!num.isNumber()) {
                throw LayoutReader.fault(1, num);
            }
            int n = Integer.parseInt(num.text);
            return (w, t) -> {
                int v = what.equals("ticks") ? w.stay[t] : what.equals("waited") ? w.waited[t] : t;
                return sign.text.equals("<") ? v < n : sign.text.equals("=") ? v == n : v > n;
            };
        }
    }

    final StringBuilder tape = new StringBuilder();
    World w = new World(new Layout());
    int fault = 0;
    final Deque<World> undo = new ArrayDeque<>();
    List<Integer> pulls = new ArrayList<>();
    List<Integer> path = new ArrayList<>();
    List<Integer> fits = new ArrayList<>();
    int ask = NONE;
    int those = NONE;
    String tag = "";
    int[] told = null;
    Cond cond = null;
    final Object[][] images = new Object[2][];

    Layout lay() {
        return w.lay;
    }

    static boolean in(List<?> list, int i) {
        return i >= 0 && i < list.size();
    }

    static int at(List<Integer> list, int k) {
        return in(list, k) ? list.get(k) : NONE;
    }

    int feed(int... five) {
        if (tape.length() + 20 > 1460) {
            return NONE;
        }
        for (int v : five) {
            for (byte b : java.nio.ByteBuffer.allocate(4).putInt(v).array()) {
                tape.append((char) (b & 255));
            }
        }
        return tape.length();
    }

    boolean end(int n) {
        if (n < 0 || n > tape.length()) {
            return false;
        }
        tape.setLength(n);
        return true;
    }

    String takeTape() {
        String text = tape.toString();
        tape.setLength(0);
        return text;
    }

    int layout() {
        try {
            Layout lay = new LayoutReader(takeTape()).read();
            w = new World(lay);
            cond = null;
            undo.clear();
            fault = 0;
            return lay.lines;
        } catch (Fault f) {
            fault = f.kind;
            return -1 - f.place;
        }
    }

    int section(int s, int what) {
        if (!in(lay().sections, s)) {
            return NONE;
        }
        switch (what) {
            case 0:
                return lay().sections.get(s).length;
            case 1:
                for (int t = 0; t < w.where.length; t++) {
                    if (w.where[t] == s) {
                        return t;
                    }
                }
                return NONE;
            case 2:
                return w.shows(s) ? 1 : 0;
            case 3:
                return w.fails[s];
            case 4:
                return w.bits(lay().routes.size(), r -> lay().routes.get(r).over.contains(s));
            case 5:
                return w.bits(lay().points.size(), p -> lay().points.get(p).section == s);
            default:
                return NONE;
        }
    }

    int need(int r, int p) {
        return lay().routes.get(r).needs.getOrDefault(p, NONE);
    }

    int points(int p, int what) {
        if (!in(lay().points, p)) {
            return NONE;
        }
        switch (what) {
            case 0:
                return lay().points.get(p).section;
            case 1:
                return w.lies[p];
            case 2:
            case 3:
                return w.bits(lay().routes.size(), r -> need(r, p) == what - 2);
            default:
                return NONE;
        }
    }

    int signal(int g, int what) {
        if (!in(lay().signals, g)) {
            return NONE;
        }
        switch (what) {
            case 0:
                return lay().signals.get(g).section;
            case 1:
                return lay().signals.get(g).way;
            case 2:
                return w.bits(w.how.length, r -> w.how[r].equals("set") && lay().routes.get(r).signal == g) == 0 ? 0 : 1;
            case 3:
                return lay().routesOfSignal(g);
            default:
                return NONE;
        }
    }

    int route(int r, int what) {
        if (!in(lay().routes, r)) {
            return NONE;
        }
        Route x = lay().routes.get(r);
        switch (what) {
            case 0:
                return x.signal;
            case 1:
                return Arrays.asList("free", "set", "used", "held").indexOf(w.how[r]);
            case 2:
                return x.over.size();
            case 3:
                return w.bits(w.how.length, x.locked::contains);
            case 4:
                return lay().conflicts(r);
            case 5:
            case 6:
                return w.bits(w.lies.length, p -> need(r, p) == what - 5);
            case 7:
                return w.how[r].equals("held") ? w.held[r] : 0;
            case 8:
                return w.how[r].equals("used") ? w.user[r] : NONE;
            default:
                return NONE;
        }
    }

    int over(int r, int k) {
        return in(lay().routes, r) ? at(lay().routes.get(r).over, k) : NONE;
    }

    int train(int t, int what) {
        if (!in(lay().trains, t) || what < 0 || what > 6) {
            throw new NoSuchElementException();
        }
        switch (what) {
            case 0:
                return w.where[t];
            case 1:
                return lay().trains.get(t).way;
            case 2:
                return w.stay[t];
            case 3:
                return w.crashed[t] ? 1 : 0;
            case 4:
                return w.waits[t] ? 1 : 0;
            case 5:
                return w.waited[t];
            default:
                return w.bits(w.how.length, r -> w.how[r].equals("used") && w.user[r] == t);
        }
    }

    int now(int what) {
        switch (what) {
            case 0:
                return w.tick;
            case 1:
                return w.bits(w.fails.length, w::shows);
            case 2:
                return w.notFree();
            case 3:
                return w.bits(w.lies.length, p -> w.lies[p] == 1);
            case 4:
                return w.bits(w.where.length, t -> w.where[t] == NONE);
            case 5:
                return w.bits(w.where.length, t -> w.crashed[t]);
            case 6:
                return w.meets;
            default:
                return NONE;
        }
    }

    int done(World before, int why) {
        if (why == 0) {
            keep(before);
        }
        return why;
    }

    void keep(World before) {
        undo.addLast(before);
        if (undo.size() > 8) {
            undo.removeFirst();
        }
    }

    int set(int r) {
        return in(lay().routes, r) ? done(w.copy(), w.set(r)) : NONE;
    }

    int back(int r) {
        return in(lay().routes, r) ? done(w.copy(), w.back(r)) : NONE;
    }

    int turn(int p) {
        return in(lay().points, p) ? done(w.copy(), w.turn(p)) : NONE;
    }

    int fail(int s, int full) {
        return in(lay().sections, s) && (full == 0 || full == 1) ? done(w.copy(), w.fail(s, full)) : NONE;
    }

    int mend(int s) {
        return in(lay().sections, s) ? done(w.copy(), w.mend(s)) : NONE;
    }

    int ticks(int n) {
        if (n < 1 || n > 60) {
            return NONE;
        }
        World before = w.copy();
        int gone = 0;
        for (; gone < n && w.tick < 1000; gone++) {
            w.tick();
        }
        if (gone > 0) {
            keep(before);
        }
        return gone;
    }

    int undo() {
        if (undo.isEmpty()) {
            return NONE;
        }
        w = undo.removeLast();
        return undo.size();
    }

    List<Integer> lackingPairs() {
        List<Integer> pairs = new ArrayList<>();
        for (int a = 0; a < lay().routes.size(); a++) {
            for (int b = a + 1; b < lay().routes.size(); b++) {
                Route x = lay().routes.get(a);
                if (lay().conflict(a, b) && !x.locked.contains(b) && x.signal != lay().routes.get(b).signal) {
                    pairs.add(16 * a + b);
                }
            }
        }
        return pairs;
    }

    int lacking() {
        return lackingPairs().size();
    }

    int lacks(int k) {
        return at(lackingPairs(), k);
    }

    int spare() {
        int n = 0;
        for (int a = 0; a < lay().routes.size(); a++) {
            for (int b : lay().routes.get(a).locked) {
                n += a < b && !lay().conflict(a, b) ? 1 : 0;
            }
        }
        return n;
    }

    /** Tries every set of routes and points, the smallest first. */
    int pulls(int r) {
        if (!in(lay().routes, r)) {
            return NONE;
        }
        int n = w.how.length;
        int m = w.lies.length;
        List<Integer> best = null;
        for (int set = 0; set < 1 << (n + m); set++) {
            if (best != null && Integer.bitCount(set) >= best.size()) {
                continue;
            }
            World x = w.copy();
            List<Integer> list = new ArrayList<>();
            boolean can = true;
            for (int i = 0; i < n + m && can; i++) {
                if ((set >> i & 1) == 1) {
                    can = i < n ? x.back(i) == 0 && x.free(i) : x.turn(i - n) == 0;
                    list.add(i < n ? i : 16 + i - n);
                }
            }
            // Putting back the route itself makes no row that counts: it was not FREE.
            if (can && w.free(r) && x.set(r) == 0) {
                best = list;
            }
        }
        if (best == null) {
            return NONE;
        }
        pulls = best;
        return best.size();
    }

    boolean peaceful(int set) {
        for (int a = 0; a < w.how.length; a++) {
            for (int b = 0; b < a; b++) {
                if ((set >> a & set >> b & 1) == 1 && lay().conflict(a, b)) {
                    return false;
                }
            }
        }
        return true;
    }

    int together() {
        int best = 0;
        for (int set = (1 << w.how.length) - 1; set >= 0; set--) {
            if (Integer.bitCount(set) >= Integer.bitCount(best) && peaceful(set)) {
                best = set;
            }
        }
        those = best;
        return Integer.bitCount(best);
    }

    int rounds() {
        int n = w.how.length;
        int[] least = new int[1 << n];
        for (int set = 1; set < 1 << n; set++) {
            least[set] = 99;
            for (int sub = set; sub > 0; sub = sub - 1 & set) {
                if (peaceful(sub)) {
                    least[set] = Math.min(least[set], 1 + least[set ^ sub]);
                }
            }
        }
        return least[(1 << n) - 1];
    }

    /** Tries all rows of routes of each length, in the order of their numbers. */
    int path(int t, int s) {
        if (!in(lay().trains, t) || !in(lay().sections, s) || w.where[t] == NONE) {
            return NONE;
        }
        List<List<Integer>> rows = new ArrayList<>();
        List<Integer> ends = new ArrayList<>();
        rows.add(new ArrayList<>());
        ends.add(w.where[t]);
        if (w.where[t] == s) {
            path = new ArrayList<>();
            return 0;
        }
        Set<Integer> seen = new HashSet<>(ends);
        while (!rows.isEmpty()) {
            List<List<Integer>> longer = new ArrayList<>();
            List<Integer> longerEnds = new ArrayList<>();
            for (int i = 0; i < rows.size(); i++) {
                for (int r = 0; r < w.how.length; r++) {
                    Route x = lay().routes.get(r);
                    Signal g = lay().signals.get(x.signal);
                    if (g.section != ends.get(i) || g.way != lay().trains.get(t).way || x.over.isEmpty()) {
                        continue;
                    }
                    List<Integer> row = new ArrayList<>(rows.get(i));
                    row.add(r);
                    if (x.over.contains(s)) {
                        path = row;
                        return row.size();
                    }
                    int end = x.over.get(x.over.size() - 1);
                    if (seen.add(end)) {
                        longer.add(row);
                        longerEnds.add(end);
                    }
                }
            }
            rows = longer;
            ends = longerEnds;
        }
        return NONE;
    }

    int comes(int t, int s) {
        if (!in(lay().trains, t) || !in(lay().sections, s)) {
            return NONE;
        }
        World x = w.copy();
        for (int i = 0; i <= 300; i++) {
            if (x.where[t] == s) {
                return i;
            }
            x.tick();
        }
        return NONE;
    }

    int meet() {
        World x = w.copy();
        for (int i = 1; i <= 300; i++) {
            x.tick();
            if (!Arrays.equals(x.crashed, w.crashed)) {
                return i;
            }
        }
        return NONE;
    }

    int fits() {
        String text = takeTape();
        int n = text.length();
        int sections = lay().sections.size();
        if (n < 2 || n > 12 || n % 2 == 1) {
            return NONE;
        }
        for (int i = 0; i < n; i++) {
            if (text.charAt(i) >= (i % 2 == 0 ? sections : 2)) {
                return NONE;
            }
        }
        List<Integer> found = new ArrayList<>();
        for (int f = 0; f <= 2 * sections; f++) {
            boolean all = true;
            for (int i = 0; i < n; i += 2) {
                all &= failed(f).shows(text.charAt(i)) == (text.charAt(i + 1) == 1);
            }
            if (all) {
                found.add(f);
            }
        }
        if (found.isEmpty()) {
            return 0;
        }
        fits = found;
        int least = 99;
        for (int s = 0; s < sections; s++) {
            int clear = 0;
            int full = 0;
            for (int f : found) {
                if (failed(f).shows(s)) {
                    full++;
                } else {
                    clear++;
                }
            }
            if (Math.max(clear, full) < least) {
                least = Math.max(clear, full);
                ask = s;
            }
        }
        return found.size();
    }

    World failed(int f) {
        World x = w.copy();
        Arrays.fill(x.fails, 0);
        if (f < 2 * x.fails.length) {
            x.fails[f / 2] = f % 2 + 1;
        }
        return x;
    }

    int mean(int what) {
        if (w.where.length == 0 || what < 0 || what > 1) {
            throw new NoSuchElementException();
        }
        int above = Arrays.stream(w.waited).sum();
        int below = w.where.length;
        for (int d = below; d > 1; d--) {
            if (above % d == 0 && below % d == 0) {
                above /= d;
                below /= d;
            }
        }
        return what == 0 ? above : below;
    }

    int tag(int t) {
        if (!in(lay().trains, t)) {
            return NONE;
        }
        tag = lay().trains.get(t).name + (w.where[t] == NONE ? " out" : " in " + lay().sections.get(w.where[t]).name)
                + (w.crashed[t] ? " crashed" : w.waits[t] ? " waits" : "");
        return tag.length();
    }

    int byteAt(int i) {
        return i >= 0 && i < tag.length() ? tag.charAt(i) : NONE;
    }

    int drawn(int n, int seed) {
        if (n < 1 || n > 60) {
            return NONE;
        }
        World before = w.copy();
        int gone = w.drawn(n, seed);
        if (gone > 0) {
            keep(before);
        }
        return gone;
    }

    int odds(int n, int seed) {
        if (n < 1 || n > 30) {
            return NONE;
        }
        int hits = 0;
        for (int i = 0; i < n; i++) {
            World x = w.copy();
            x.drawn(40, seed + i);
            hits += x.meets > w.meets ? 1 : 0;
        }
        return hits;
    }

    int book(int lives) {
        if (lives != 0 && lives != 1) {
            return -1000;
        }
        List<String[]> lines = new ArrayList<>();
        try {
            readBook(takeTape(), lines);
            fault = 0;
        } catch (Fault f) {
            fault = f.kind;
            return -2 - f.place;
        }
        World x = w.copy();
        int good = 0;
        int why = 0;
        for (String[] line : lines) {
            why = live(x, line);
            if (why != 0) {
                break;
            }
            good++;
        }
        told = new int[] {why, good, x.tick, x.notFree()};
        if (lives == 1 && good > 0) {
            keep(w);
            w = x;
        }
        return why == 0 ? NONE : good;
    }

    void readBook(String text, List<String[]> lines) {
        List<Tok> toks = tokens(text, 400);
        Map<String, Integer> sorts = Map.of("set", 4, "back", 4, "throw", 1, "fail", 0, "mend", 0, "tick", 9);
        int at = 0;
        while (!toks.get(at).text.isEmpty()) {
            Tok verb = toks.get(at++);
            if (!sorts.containsKey(verb.text)) {
                throw LayoutReader.fault(1, verb);
            }
            if (lines.size() == 40) {
                throw LayoutReader.fault(4, verb);
            }
            Tok thing = toks.get(at++);
            if (verb.text.equals("tick")) {
                if (!thing.isNumber()) {
                    throw LayoutReader.fault(1, thing);
                }
                int n = Integer.parseInt(thing.text);
                if (n < 1 || n > 60) {
                    throw LayoutReader.fault(2, thing);
                }
            } else {
                if (!thing.isName()) {
                    throw LayoutReader.fault(1, thing);
                }
                int[] known = lay().names.get(thing.text);
                if (known == null || known[0] != sorts.get(verb.text)) {
                    throw LayoutReader.fault(3, thing);
                }
            }
            String side = "";
            if (verb.text.equals("fail")) {
                Tok s = toks.get(at++);
                if (!s.text.equals("clear") && !s.text.equals("full")) {
                    throw LayoutReader.fault(1, s);
                }
                side = s.text;
            }
            Tok stop = toks.get(at++);
            if (!stop.text.equals(";")) {
                throw LayoutReader.fault(1, stop);
            }
            lines.add(new String[] {verb.text, thing.text, side});
        }
    }

    int live(World x, String[] line) {
        if (line[0].equals("tick")) {
            int n = Integer.parseInt(line[1]);
            if (x.tick + n > 1000) {
                return 51;
            }
            for (int i = 0; i < n; i++) {
                x.tick();
            }
            return 0;
        }
        int which = lay().names.get(line[1])[1];
        switch (line[0]) {
            case "set":
                return x.set(which);
            case "back":
                return x.back(which) == 0 ? 0 : 11;
            case "throw": {
                int why = x.turn(which);
                return why == 0 ? 0 : 20 + why;
            }
            case "fail":
                return x.fail(which, line[2].equals("full") ? 1 : 0) == 0 ? 0 : 31;
            default:
                return x.mend(which) == 0 ? 0 : 41;
        }
    }

    int told(int what) {
        return told == null || what < 0 || what > 3 ? NONE : told[what];
    }

    int sentence() {
        SentenceReader reader = new SentenceReader(takeTape(), lay());
        try {
            Cond c = reader.read();
            cond = c;
            fault = 0;
            return reader.ones;
        } catch (Fault f) {
            fault = f.kind;
            return -1 - f.place;
        }
    }

    int said(int k) {
        if (cond == null) {
            return NONE;
        }
        List<Integer> list = new ArrayList<>();
        for (int t = 0; t < w.where.length; t++) {
            if (cond.holds(w, t)) {
                list.add(t);
            }
        }
        return k == NONE ? list.size() : at(list, k);
    }

    boolean image(int k) {
        if (k != 0 && k != 1) {
            return false;
        }
        images[k] = new Object[] {w.copy(), cond};
        return true;
    }

    boolean restore(int k) {
        if (k != 0 && k != 1 || images[k] == null) {
            return false;
        }
        w = ((World) images[k][0]).copy();
        cond = (Cond) images[k][1];
        undo.clear();
        return true;
    }

    int count(int what) {
        Layout l = lay();
        int[] all = {l.sections.size(), l.points.size(), l.tracks.size(), l.signals.size(), l.routes.size(), l.locks,
            l.trains.size(), l.holdTicks(), tape.length()};
        return what >= 0 && what < all.length ? all[what] : NONE;
    }
}
