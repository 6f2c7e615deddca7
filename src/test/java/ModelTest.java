import java.util.NoSuchElementException;
import java.util.Random;

/** Drawn runs of calls, each answered alike by the class and by the model of the document. */
public final class ModelTest {
    private static final int RUNS = 600;
    /** What an object answers behind so many calls is free. */
    private static final int MOST_CALLS = 512;
    private static final String[] CALLS = {"feed", "end", "layout", "fault", "section", "points", "signal", "route", "over",
        "train", "now", "set", "back", "turn", "fail", "mend", "ticks", "undo", "lacking", "lacks", "spare", "pulls", "pullsAt",
        "together", "those", "rounds", "path", "pathAt", "comes", "meet", "fits", "fitsAt", "ask", "mean", "tag", "byteAt",
        "drawn", "odds", "book", "told", "sentence", "said", "image", "restore", "count"};
    private static final int THROWS = 987654321;

    private final Random rnd;
    private final Texts texts;
    private final LeverFrame real = new LeverFrame();
    private final Model model = new Model();
    private final StringBuilder log = new StringBuilder();
    private int calls = 0;
    private boolean wrong = false;

    private ModelTest(long seed) {
        rnd = new Random(seed);
        texts = new Texts(rnd);
    }

    public static void main(String[] args) {
        int bad = 0;
        int runs = args.length > 0 ? Integer.parseInt(args[0]) : RUNS;
        int first = args.length > 1 ? Integer.parseInt(args[1]) : 0;
        for (int seed = first; seed < first + runs && bad < 5; seed++) {
            ModelTest run = new ModelTest(seed);
            run.go();
            if (run.wrong) {
                bad++;
                System.out.println("seed " + seed + ":" + run.log);
            }
        }
        System.out.println(bad == 0 ? "all drawn runs are as the model's" : bad + " drawn runs are not as the model's");
        if (bad != 0) {
            System.exit(1);
        }
    }

    private void go() {
        for (int i = 0; i < 4 && model.lay().trains.isEmpty(); i++) {
            write(texts.layout());
            call("layout", 0, 0);
        }
        int limit = 60 + rnd.nextInt(400);
        while (calls < limit && !wrong) {
            step();
        }
        for (int i = 0; i < 12 && !wrong; i++) {
            call("undo", 0, 0);
            lookAround();
        }
    }

    private void step() {
        int what = rnd.nextInt(60);
        if (what == 0 && rnd.nextInt(3) == 0) {
            write(texts.layout());
            call("layout", 0, 0);
            call("fault", 0, 0);
        } else if (what == 1) {
            write(texts.sentence());
            call("sentence", 0, 0);
            call("fault", 0, 0);
            call("said", -1, 0);
        } else if (what <= 3) {
            write(texts.book());
            call("book", rnd.nextInt(20) == 0 ? 2 : rnd.nextInt(2), 0);
            call("fault", 0, 0);
            for (int k = -1; k < 5; k++) {
                call("told", k, 0);
            }
        } else if (what == 4) {
            write(shown());
            call("fits", 0, 0);
            call("ask", 0, 0);
        } else if (what <= 12) {
            call("set", of(model.lay().routes.size()), 0);
        } else if (what <= 17) {
            call("ticks", rnd.nextInt(8) == 0 ? rnd.nextInt(63) - 1 : 1 + rnd.nextInt(3), 0);
        } else if (what == 18) {
            call("drawn", rnd.nextInt(62), rnd.nextInt());
        } else if (what == 19) {
            lookAround();
        } else {
            anyCall(CALLS[rnd.nextInt(CALLS.length)]);
        }
    }

    /** A call of that name with arguments that mean something most often. */
    private void anyCall(String name) {
        Model.Layout lay = model.lay();
        switch (name) {
            case "section":
            case "fail":
                call(name, of(lay.sections.size()), of(name.equals("fail") ? 2 : 6));
                break;
            case "mend":
                call(name, of(lay.sections.size()), 0);
                break;
            case "points":
                call(name, of(lay.points.size()), of(4));
                break;
            case "turn":
                call(name, of(lay.points.size()), 0);
                break;
            case "signal":
                call(name, of(lay.signals.size()), of(4));
                break;
            case "back":
                for (int r = 0; r < lay.routes.size(); r++) {
                    if (rnd.nextInt(3) == 0 && (model.route(r, 1) == 1 || rnd.nextInt(5) == 0)) {
                        call(name, r, 0);
                    }
                }
                break;
            case "pulls":
                call(name, of(lay.routes.size()), 0);
                call("pullsAt", 0, 0);
                call("pullsAt", 1, 0);
                break;
            case "route":
            case "over":
                call(name, of(lay.routes.size()), of(name.equals("route") ? 9 : 6));
                break;
            case "path":
            case "comes":
                call(name, of(lay.trains.size()), of(lay.sections.size()));
                call("pathAt", 0, 0);
                call("pathAt", 1, 0);
                break;
            case "train":
            case "tag":
                call(name, of(lay.trains.size()), of(7));
                for (int i = -1; i < 28 && name.equals("tag") && rnd.nextInt(3) == 0; i++) {
                    call("byteAt", i, 0);
                }
                break;
            case "odds":
            case "drawn":
                call(name, rnd.nextInt(33), small());
                break;
            case "layout":
            case "book":
            case "sentence":
            case "fits":
                if (rnd.nextInt(5) == 0) {
                    call(name, small(), 0);
                }
                break;
            case "restore":
                if (rnd.nextInt(3) == 0) {
                    call(name, of(2), 0);
                }
                break;
            default:
                call(name, small(), small());
        }
    }

    /** Mostly one of so many, now and then none of them. */
    private int of(int many) {
        return many == 0 || rnd.nextInt(30) == 0 ? small() : rnd.nextInt(many);
    }

    private int small() {
        return rnd.nextInt(30) == 0 ? rnd.nextInt() : rnd.nextInt(rnd.nextBoolean() ? 4 : 14) - 1;
    }

    private String shown() {
        StringBuilder text = new StringBuilder();
        int pairs = rnd.nextInt(10) == 0 ? rnd.nextInt(9) : 1 + rnd.nextInt(3);
        int sections = Math.max(1, model.lay().sections.size());
        for (int i = 0; i < pairs; i++) {
            int s = rnd.nextInt(30) == 0 ? rnd.nextInt(256) : rnd.nextInt(sections);
            int full = rnd.nextInt(3) == 0 ? rnd.nextInt(rnd.nextInt(10) == 0 ? 256 : 2) : Math.max(0, model.section(s, 2));
            text.append((char) s).append((char) full);
        }
        if (rnd.nextInt(15) == 0) {
            text.append((char) 0);
        }
        return text.toString();
    }

    private void lookAround() {
        for (int k = 0; k < 7; k++) {
            call("now", k, 0);
        }
        for (int r = 0; r < model.lay().routes.size(); r++) {
            for (int k = 0; k < 9; k++) {
                call("route", r, k);
            }
        }
        for (int t = 0; t < model.lay().trains.size(); t++) {
            for (int k = 0; k < 7; k++) {
                call("train", t, k);
            }
        }
    }

    /** Puts a text on the tape of both. */
    private void write(String text) {
        if (wrong || calls + text.length() / 20 + 3 > MOST_CALLS) {
            return;
        }
        call("end", 0, 0);
        for (int at = 0; at < text.length(); at += 20) {
            int[] five = new int[5];
            for (int i = 0; i < 20; i++) {
                int c = at + i < text.length() ? text.charAt(at + i) : 0;
                five[i / 4] |= c << 24 - i % 4 * 8;
            }
            due("feed", real.feed(five[0], five[1], five[2], five[3], five[4]), model.feed(five));
        }
        log.append("\n  tape \"").append(text).append('"');
        call("end", text.length(), 0);
    }

    private void due(String call, int got, int want) {
        calls++;
        if (got != want && !wrong) {
            wrong = true;
            log.append("\n  ").append(call).append(" answered ").append(got).append(", due is ").append(want);
        }
    }

    private void call(String name, int a, int b) {
        if (wrong || calls >= MOST_CALLS) {
            return;
        }
        int want = askModel(name, a, b);
        int got = THROWS + 1;
        try {
            got = askReal(name, a, b);
        } catch (NoSuchElementException e) {
            got = THROWS;
        } catch (RuntimeException e) {
            log.append("\n  ").append(e);
        }
        if (!name.equals("route") && !name.equals("train") && !name.equals("now")) {
            log.append("\n  ").append(name).append(' ').append(a).append(' ').append(b).append(" = ").append(want);
        }
        due(name + "(" + a + ", " + b + ")", got, want);
    }

    private int askModel(String name, int a, int b) {
        try {
            return answerOfModel(name, a, b);
        } catch (NoSuchElementException e) {
            return THROWS;
        }
    }

    private static int bit(boolean b) {
        return b ? 1 : 0;
    }

    private int askReal(String name, int a, int b) {
        switch (name) {
            case "feed": return real.feed(a, b, a, b, a);
            case "end": return bit(real.end(a));
            case "layout": return real.layout();
            case "fault": return real.fault();
            case "section": return real.section(a, b);
            case "points": return real.points(a, b);
            case "signal": return real.signal(a, b);
            case "route": return real.route(a, b);
            case "over": return real.over(a, b);
            case "train": return real.train(a, b);
            case "now": return real.now(a);
            case "set": return real.set(a);
            case "back": return real.back(a);
            case "turn": return real.turn(a);
            case "fail": return real.fail(a, b);
            case "mend": return real.mend(a);
            case "ticks": return real.ticks(a);
            case "undo": return real.undo();
            case "lacking": return real.lacking();
            case "lacks": return real.lacks(a);
            case "spare": return real.spare();
            case "pulls": return real.pulls(a);
            case "pullsAt": return real.pullsAt(a);
            case "together": return real.together();
            case "those": return real.those();
            case "rounds": return real.rounds();
            case "path": return real.path(a, b);
            case "pathAt": return real.pathAt(a);
            case "comes": return real.comes(a, b);
            case "meet": return real.meet();
            case "fits": return real.fits();
            case "fitsAt": return real.fitsAt(a);
            case "ask": return real.ask();
            case "mean": return real.mean(a);
            case "tag": return real.tag(a);
            case "byteAt": return real.byteAt(a);
            case "drawn": return real.drawn(a, b);
            case "odds": return real.odds(a, b);
            case "book": return real.book(a);
            case "told": return real.told(a);
            case "sentence": return real.sentence();
            case "said": return real.said(a);
            case "image": return bit(real.image(a));
            case "restore": return bit(real.restore(a));
            default: return real.count(a);
        }
    }

    private int answerOfModel(String name, int a, int b) {
        switch (name) {
            case "feed": return model.feed(a, b, a, b, a);
            case "end": return bit(model.end(a));
            case "layout": return model.layout();
            case "fault": return model.fault;
            case "section": return model.section(a, b);
            case "points": return model.points(a, b);
            case "signal": return model.signal(a, b);
            case "route": return model.route(a, b);
            case "over": return model.over(a, b);
            case "train": return model.train(a, b);
            case "now": return model.now(a);
            case "set": return model.set(a);
            case "back": return model.back(a);
            case "turn": return model.turn(a);
            case "fail": return model.fail(a, b);
            case "mend": return model.mend(a);
            case "ticks": return model.ticks(a);
            case "undo": return model.undo();
            case "lacking": return model.lacking();
            case "lacks": return model.lacks(a);
            case "spare": return model.spare();
            case "pulls": return model.pulls(a);
            case "pullsAt": return Model.at(model.pulls, a);
            case "together": return model.together();
            case "those": return model.those;
            case "rounds": return model.rounds();
            case "path": return model.path(a, b);
            case "pathAt": return Model.at(model.path, a);
            case "comes": return model.comes(a, b);
            case "meet": return model.meet();
            case "fits": return model.fits();
            case "fitsAt": return Model.at(model.fits, a);
            case "ask": return model.ask;
            case "mean": return model.mean(a);
            case "tag": return model.tag(a);
            case "byteAt": return model.byteAt(a);
            case "drawn": return model.drawn(a, b);
            case "odds": return model.odds(a, b);
            case "book": return model.book(a);
            case "told": return model.told(a);
            case "sentence": return model.sentence();
            case "said": return model.said(a);
            case "image": return bit(model.image(a));
            case "restore": return bit(model.restore(a));
            default: return model.count(a);
        }
    }
}
