import java.util.ArrayList;
import java.util.Arrays;
import java.util.List;
import java.util.Random;

/** Draws layouts, books and sentences, most of them good, some with a fault put in. */
final class Texts {
    private static final String[] WAYS = {"down", "up"};
    private static final String[] LIES = {"normal", "reverse"};
    private static final String[] ODD = {";", "<", "=", ">", "(", ")", ".", "A", "!", "a1", "1a", "abcdefgh", "1000", "0",
        "31", "30", "61", "60", "section", "points", "track", "signal", "route", "over", "lock", "train", "hold", "normal",
        "up", "set", "tick", "or", "and", "not", "out", "in", "using", "number", "zz", "sa", "pa", "ga", "ra", "ta", "sb", "rb"};

    private final Random rnd;

    Texts(Random rnd) {
        this.rnd = rnd;
    }

    private static String name(char sort, int i) {
        return "" + sort + (char) ('a' + i);
    }

    private int upTo(int most) {
        return rnd.nextInt(most + 1);
    }

    String layout() {
        int size = 1 + rnd.nextInt(5);
        int sections = size == 1 ? upTo(3) : 3 + rnd.nextInt(10);
        int points = sections == 0 ? 0 : upTo(size == 1 ? 1 : 6);
        List<String> lines = new ArrayList<>();
        for (int s = 0; s < sections; s++) {
            lines.add("section " + name('s', s) + " " + (1 + rnd.nextInt(rnd.nextInt(5) == 0 ? 30 : 4)));
        }
        int[] in = new int[points];
        for (int p = 0; p < points; p++) {
            in[p] = rnd.nextInt(sections);
            lines.add("points " + name('p', p) + " " + name('s', in[p]));
        }
        List<int[]> tracks = new ArrayList<>();
        for (int k = 0; k < 16 && sections > 1; k++) {
            addTrack(lines, tracks, sections, in);
        }
        addSignalsAndRoutes(lines, tracks, sections);
        boolean[] taken = new boolean[12];
        int trains = sections == 0 ? 0 : upTo(5);
        for (int t = 0, told = 0; t < trains; t++) {
            int s = rnd.nextInt(sections);
            if (!taken[s]) {
                taken[s] = true;
                lines.add("train " + name('t', told++) + " " + name('s', s) + " " + WAYS[rnd.nextInt(2)]);
            }
        }
        if (rnd.nextInt(3) > 0) {
            lines.add("hold " + (1 + rnd.nextInt(rnd.nextBoolean() ? 4 : 30)));
        }
        if (rnd.nextInt(8) == 0) {
            lines.add(oneTooMany(lines));
        }
        return spaced(spoiled(lines), 1400);
    }

    private void addTrack(List<String> lines, List<int[]> tracks, int sections, int[] in) {
        int a = rnd.nextInt(sections);
        int b = Math.min(sections - 1, Math.max(0, a + rnd.nextInt(5) - 1));
        if (a == b || rnd.nextInt(16) == 0) {
            b = rnd.nextInt(sections);
        }
        for (int[] k : tracks) {
            if (k[0] == a && k[1] == b || k[0] == b && k[1] == a) {
                return;
            }
        }
        if (a == b) {
            return;
        }
        String line = "track " + name('s', a) + " " + name('s', b);
        int[] track = {a, b, -1, 0};
        for (int p = 0; p < in.length && track[2] < 0; p++) {
            if ((in[p] == a || in[p] == b) && rnd.nextInt(3) > 0) {
                track[2] = p;
                track[3] = rnd.nextInt(2);
                line += " " + name('p', p) + " " + LIES[track[3]];
            }
        }
        tracks.add(track);
        lines.add(line);
    }

    private void addSignalsAndRoutes(List<String> lines, List<int[]> tracks, int sections) {
        List<int[]> signals = new ArrayList<>();
        int wanted = sections == 0 ? 0 : upTo(8);
        for (int g = 0; g < wanted; g++) {
            int s = rnd.nextInt(sections);
            int way = rnd.nextInt(2);
            boolean there = false;
            for (int[] o : signals) {
                there |= o[0] == s && o[1] == way;
            }
            if (!there) {
                lines.add("signal " + name('g', signals.size()) + " " + name('s', s) + " " + WAYS[way]);
                signals.add(new int[] {s, way});
            }
        }
        int routes = signals.isEmpty() ? 0 : upTo(10);
        for (int r = 0; r < routes; r++) {
            int g = rnd.nextInt(signals.size());
            lines.add("route " + name('r', r) + " " + name('g', g));
            addOvers(lines, tracks, name('r', r), signals.get(g));
        }
        for (int k = 0; k < routes; k++) {
            int a = rnd.nextInt(routes);
            int b = rnd.nextInt(routes);
            String one = "lock " + name('r', a) + " " + name('r', b);
            String other = "lock " + name('r', b) + " " + name('r', a);
            if (a != b && !lines.contains(one) && !lines.contains(other)) {
                lines.add(one);
            }
        }
    }

    /** A walk along the tracks that a route may take, now and then one that it may not. */
    private void addOvers(List<String> lines, List<int[]> tracks, String route, int[] signal) {
        boolean careless = rnd.nextInt(60) == 0;
        List<Integer> been = new ArrayList<>(Arrays.asList(signal[0]));
        int[] needs = {-1, -1, -1, -1, -1, -1};
        int wanted = rnd.nextInt(40) == 0 ? 7 : rnd.nextInt(5);
        for (int k = 0; k < wanted; k++) {
            List<int[]> next = new ArrayList<>();
            for (int[] t : tracks) {
                boolean fits = !been.contains(t[1 - signal[1]])
                        && (t[2] < 0 || needs[t[2]] < 0 || needs[t[2]] == t[3]);
                if (t[signal[1]] == been.get(been.size() - 1) && (fits || careless)) {
                    next.add(t);
                }
            }
            if (next.isEmpty()) {
                return;
            }
            int[] by = next.get(rnd.nextInt(next.size()));
            if (by[2] >= 0) {
                needs[by[2]] = by[3];
            }
            been.add(by[1 - signal[1]]);
            lines.add("over " + route + " " + name('s', by[1 - signal[1]]));
        }
    }

    private String oneTooMany(List<String> lines) {
        if (lines.isEmpty()) {
            return "hold 3";
        }
        String line = lines.get(rnd.nextInt(lines.size()));
        return rnd.nextBoolean() ? line : line.replaceFirst(" [a-z]+", " new");
    }

    String book() {
        List<String> lines = new ArrayList<>();
        int n = rnd.nextInt(12) == 0 ? 38 + rnd.nextInt(5) : upTo(10);
        for (int i = 0; i < n; i++) {
            String r = name('r', rnd.nextInt(4));
            String s = name('s', rnd.nextInt(4));
            switch (rnd.nextInt(7)) {
                case 0:
                case 1:
                    lines.add("set " + r);
                    break;
                case 2:
                    lines.add("back " + r);
                    break;
                case 3:
                    lines.add("throw " + name('p', rnd.nextInt(2)));
                    break;
                case 4:
                    lines.add("fail " + s + (rnd.nextBoolean() ? " clear" : " full"));
                    break;
                case 5:
                    lines.add("mend " + s);
                    break;
                default:
                    lines.add("tick " + (1 + rnd.nextInt(rnd.nextBoolean() ? 5 : 60)));
            }
        }
        if (n > 12) {
            lines.replaceAll(l -> "tick 1");
        }
        return spaced(spoiled(lines), 400);
    }

    String sentence() {
        List<String> words = new ArrayList<>();
        addCond(words, rnd.nextInt(14) == 0 ? 9 : 1 + rnd.nextInt(4), words);
        if (rnd.nextInt(14) == 0) {
            while (words.size() < 50) {
                words.add("and");
                words.add("out");
            }
        }
        spoil(words, 6);
        return spaced(words, 200);
    }

    private void addCond(List<String> words, int depth, List<String> all) {
        int parts = 1 + rnd.nextInt(2);
        for (int i = 0; i < parts && all.size() < 60; i++) {
            if (i > 0) {
                words.add(rnd.nextBoolean() ? "or" : "and");
            }
            addOne(words, depth, all);
        }
    }

    private void addOne(List<String> words, int depth, List<String> all) {
        int kind = rnd.nextInt(10);
        if (depth > 1 && kind < 5 || depth > 6) {
            if (rnd.nextBoolean()) {
                words.add("not");
                addOne(words, depth - 1, all);
            } else {
                words.add("(");
                addCond(words, depth - 1, all);
                words.add(")");
            }
            return;
        }
        switch (rnd.nextInt(8)) {
            case 0:
                words.add("out");
                break;
            case 1:
                words.add("crashed");
                break;
            case 2:
                words.add("waiting");
                break;
            case 3:
                words.addAll(Arrays.asList("in", name('s', rnd.nextInt(6))));
                break;
            case 4:
                words.addAll(Arrays.asList("using", name('r', rnd.nextInt(4))));
                break;
            default:
                words.add(new String[] {"ticks", "waited", "number"}[rnd.nextInt(3)]);
                words.add(new String[] {"<", "=", ">"}[rnd.nextInt(3)]);
                words.add("" + rnd.nextInt(rnd.nextBoolean() ? 4 : 40));
        }
    }

    private List<String> spoiled(List<String> lines) {
        List<String> words = new ArrayList<>();
        for (String line : lines) {
            words.addAll(Arrays.asList(line.split(" ")));
            words.add(";");
        }
        spoil(words, 4);
        return words;
    }

    /** Once in so many texts something is put in, left out or put for something else. */
    private void spoil(List<String> words, int once) {
        if (words.isEmpty() || rnd.nextInt(once) > 0) {
            return;
        }
        int at = rnd.nextInt(words.size());
        switch (rnd.nextInt(5)) {
            case 0:
                words.remove(at);
                break;
            case 1:
                words.add(at, ODD[rnd.nextInt(ODD.length)]);
                break;
            case 2:
                words.subList(at, words.size()).clear();
                break;
            default:
                words.set(at, rnd.nextBoolean() ? ODD[rnd.nextInt(ODD.length)] : words.get(rnd.nextInt(words.size())));
        }
    }

    private String spaced(List<String> words, int most) {
        StringBuilder text = new StringBuilder();
        boolean wide = rnd.nextInt(10) == 0;
        for (String word : words) {
            boolean run = word.matches("[a-z0-9]+");
            boolean after = text.length() > 0 && String.valueOf(text.charAt(text.length() - 1)).matches("[a-z0-9]");
            if (run && after && rnd.nextInt(400) > 0 || rnd.nextInt(12) == 0) {
                text.append(rnd.nextBoolean() ? " " : "\n");
            }
            if (wide && rnd.nextInt(3) == 0) {
                text.append("   ");
            }
            text.append(word);
        }
        if (rnd.nextInt(15) == 0) {
            int goal = most - 3 + rnd.nextInt(6);
            int at = rnd.nextBoolean() || text.length() == 0 ? text.length() : text.lastIndexOf(";") < 0 ? 0 : text.lastIndexOf(";");
            while (text.length() < goal) {
                text.insert(at, ' ');
            }
        }
        if (text.length() > 1460) {
            text.setLength(1460);
        }
        return text.toString();
    }
}
