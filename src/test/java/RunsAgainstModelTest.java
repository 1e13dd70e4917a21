import java.util.StringJoiner;

/** Runs of calls by a counted-on number, each answer held against the model's. */
public final class RunsAgainstModelTest {
    private static final int RUNS = 400, CALLS = 500;
    private static int wrong = 0;
    private static long seed;

    /** A number of 0 .. n - 1: the same ones in each run of the test. */
    private static int any(int n) {
        seed = seed * 6364136223846793005L + 1442695040888963407L;
        return (int) ((seed >>> 33) % n);
    }

    private static int near(int low, int high) {
        if (any(60) == 0) {
            int[] far = {Integer.MIN_VALUE, Integer.MAX_VALUE, -9, -1, 100, -100};
            return far[any(far.length)];
        }
        return low + any(high - low + 1);
    }

    private static String anyGround() {
        StringBuilder text = new StringBuilder();
        int w = 2 + any(5), h = 1 + any(5);
        // Few blanks, else a large ground with four beasts would not fit.
        int blank = any(3) == 0 ? 6 : 1000;
        String signs = any(2) == 0 ? "......#~o=" : any(2) == 0 ? "....oooo=#" : any(2) == 0 ? "......=~~#" : ".....oo";
        text.append(" ".repeat(any(2))).append('g').append(w).append(h);
        StringBuilder cells = new StringBuilder();
        for (int c = 0; c < w * h; c++) cells.append(signs.charAt(any(signs.length())));
        int beasts = any(12) == 0 ? 0 : 1 + any(4);
        StringBuilder flock = new StringBuilder();
        for (int k = 0; k < beasts; k++) {
            int x = any(w), y = any(h);
            if (cells.charAt(y * w + x) == '#' || cells.charAt(y * w + x) == '~') cells.setCharAt(y * w + x, '.');
            flock.append(" ".repeat(any(2))).append("bslcmt".charAt(any(3) == 0 ? 0 : any(6))).append(x).append(y);
        }
        for (char c : cells.toString().toCharArray()) text.append(any(blank) == 0 ? " " : "").append(c);
        text.append(flock);
        if (any(8) == 0) text.setCharAt(any(text.length()), "g#~o=.bslcmt 0123456789x".charAt(any(24)));
        if (any(20) == 0) text.append("b");
        return text.length() > 80 ? text.substring(0, 80) : text.toString();
    }

    private static String history = "";

    private static void hold(String call, long got, long want) {
        history += call + "=" + want + "\n";
        if (got == want) return;
        wrong++;
        if (wrong < 6) System.out.println(history.substring(Math.max(0, history.length() - 1500)) + "... but got " + got);
    }

    private static String told(String name, int... args) {
        StringJoiner all = new StringJoiner(", ", name + "(", ")");
        for (int a : args) all.add(Integer.toString(a));
        return all.toString();
    }

    private static void write(LastStirred x, Model m, int t, String text) {
        hold(told("text", t, text.length()), x.text(t, text.length()), m.text(t, text.length()));
        for (int i = 0; i < text.length(); i++) x.put(t, i, text.charAt(i));
        for (int i = 0; i < text.length(); i++) m.put(t, i, text.charAt(i));
        history += "text " + t + " is «" + text + "»\n";
    }

    private static void aboutRows(LastStirred x, Model m) {
        int r = near(0, 5), i = near(0, 5), v = near(-9, 30), to = near(0, 5), n = near(0, 3);
        switch (any(8)) {
            case 0 -> hold(told("row", r, n), x.row(r, n), m.row(r, n));
            case 1, 2 -> hold(told("lay", r, i, v), x.lay(r, i, v), m.lay(r, i, v));
            case 3 -> hold(told("at", r, i), x.at(r, i), m.at(r, i));
            case 4 -> hold(told("mean", r), x.mean(r), m.mean(r));
            case 5, 6 -> hold(told("copy", r, i, to, i, n), x.copy(r, i, to, i, n), m.copy(r, i, to, i, n));
            default -> {
                if (any(3) == 0) hold(told("tear", r), x.tear(r), m.tear(r));
            }
        }
    }

    private static void aboutTexts(LastStirred x, Model m) {
        int t = near(0, 3), i = near(0, 20), v = near(-200, 300), n = near(-2, 90);
        switch (any(16)) {
            case 0 -> hold(told("put", t, i, v), x.put(t, i, v), m.put(t, i, v));
            case 1 -> hold(told("text", t, n), x.text(t, n), m.text(t, n));
            case 2 -> hold(told("fault", t), x.fault(t), m.fault(t));
            case 3 -> {
                int old = any(4);
                write(x, m, old, anyGround());
                hold(told("fault", old), x.fault(old), m.fault(old));
                hold(told("ground", old), x.ground(old), m.ground(old));
            }
            default -> {
            }
        }
    }

    private static void aboutGround(LastStirred x, Model m) {
        int c = near(0, Math.max(0, m.count(0) - 1)), k = near(0, Math.max(0, m.count(1) - 1));
        int what = near(0, 4), part = near(0, 2), kind = near(0, 5);
        switch (any(6)) {
            case 0 -> hold(told("cell", c), x.cell(c), m.cell(c));
            case 1 -> {
                if (any(2) == 0) hold(told("build", c, what), x.build(c, what), m.build(c, what));
            }
            case 2 -> hold(told("beast", k, part), x.beast(k, part), m.beast(k, part));
            case 3, 4 -> hold(told("mark", k, kind), x.mark(k, kind), m.mark(k, kind));
            default -> hold("last()", x.last(), m.last());
        }
    }

    private static void aboutSteps(LastStirred x, Model m) {
        int k = near(0, Math.max(0, m.count(1) - 1)), way = near(0, 3), n = any(4) == 0 ? near(0, 41) : near(0, 3);
        int place = near(0, 2), r = near(0, 5);
        switch (any(9)) {
            case 0, 1, 2 -> hold(told("stir", k, way), x.stir(k, way), m.stir(k, way));
            case 3 -> hold(told("go", n), x.go(n), m.go(n));
            case 4 -> hold("run()", x.run(), m.run());
            case 5 -> hold("ring()", x.ring(), m.ring());
            case 6 -> hold(told("where", r), x.where(r), m.where(r));
            case 7 -> hold(told("keep", place), x.keep(place), m.keep(place));
            default -> hold(told("on", place), x.on(place), m.on(place));
        }
    }

    private static void aboutDrives(LastStirred x, Model m) {
        int most = Math.max(0, m.count(1) - 1);
        int k = near(0, most), j = near(0, most), way = near(0, 3), n = near(1, 2);
        int c = near(0, Math.max(0, m.count(0) - 1)), r = near(0, 5);
        switch (any(8)) {
            case 0 -> {
                if (any(3) == 0) hold("fewest()", x.fewest(), m.fewest());
            }
            case 1 -> hold(told("ways", n), x.ways(n), m.ways(n));
            case 2 -> hold("gather()", x.gather(), m.gather());
            case 3 -> hold(told("part", k, j), x.part(k, j), m.part(k, j));
            case 4 -> hold(told("worth", k, way), x.worth(k, way), m.worth(k, way));
            case 5 -> hold(told("stone", c), x.stone(c), m.stone(c));
            case 6 -> {
                int size = any(4);
                hold(told("row", r, size), x.row(r, size), m.row(r, size));
                for (int i = 0; i < size; i++) {
                    int v = near(0, 4 * m.count(1));
                    hold(told("lay", r, i, v), x.lay(r, i, v), m.lay(r, i, v));
                }
                hold(told("drive", r), x.drive(r), m.drive(r));
            }
            default -> hold(told("apart"), x.apart(), m.apart());
        }
    }

    private static void aboutWolves(LastStirred x, Model m) {
        int c = near(0, Math.max(0, m.count(0) - 1)), n = near(1, 2), gates = near(0, 1), r = near(0, 5);
        int kind = near(0, 5);
        switch (any(7)) {
            case 0 -> hold(told("reach", c, gates), x.reach(c, gates), m.reach(c, gates));
            case 1 -> hold("never()", x.never(), m.never());
            case 2, 3 -> hold(told("wolf", c, n), x.wolf(c, n), m.wolf(c, n));
            case 4 -> hold(told("breed", kind), x.breed(kind), m.breed(kind));
            case 5 -> dusk(x, m, r);
            default -> {
                hold(told("dawn", r), x.dawn(r), m.dawn(r));
                hold(told("who", r), x.who(r), m.who(r));
            }
        }
    }

    /** Goes on by some drives to have a dawn that can be, then comes back to dusk. */
    private static void dusk(LastStirred x, Model m, int r) {
        hold("keep(2)", x.keep(2), m.keep(2));
        for (int i = any(3); i > 0; i--) {
            int k = any(Math.max(1, m.count(1))), way = any(4);
            hold(told("stir", k, way), x.stir(k, way), m.stir(k, way));
            hold("run()", x.run(), m.run());
        }
        hold(told("where", r), x.where(r), m.where(r));
        hold("on(2)", x.on(2), m.on(2));
        hold(told("dawn", r), x.dawn(r), m.dawn(r));
        hold("asked()", x.asked(), m.asked);
        hold(told("who", r), x.who(r), m.who(r));
    }

    private static void nearTheLastStep(LastStirred x, Model m) {
        int times = 247 + any(4);
        for (int i = 0; i < times; i++) hold("go(40)", x.go(40), m.go(40));
    }

    private static void aboutWhatIsTold(LastStirred x, Model m) {
        hold("asked()", x.asked(), m.asked);
        hold("upper()", x.upper(), m.upper);
        hold("lower()", x.lower(), m.lower);
        hold("finding()", x.finding(), m.finding);
        int what = near(0, 8), f = near(0, 6);
        hold(told("count", what), x.count(what), m.count(what));
        hold(told("findings", f), x.findings(f), m.findings(f));
        hold("digest()", x.digest(), m.digest());
    }

    public static void main(String[] args) {
        int runs = args.length > 0 ? Integer.parseInt(args[0]) : RUNS;
        int from = args.length > 1 ? Integer.parseInt(args[1]) : 0;
        for (int run = from; run < from + runs && wrong == 0; run++) {
            seed = run * 7919L + 1;
            history = "run " + run + "\n";
            LastStirred x = new LastStirred();
            Model m = new Model();
            aboutWhatIsTold(x, m);
            for (int r = 0; r < any(4); r++) hold(told("row", r, r), x.row(r, r), m.row(r, r));
            for (int tries = any(12) == 0 ? 6 : 0; tries < 6 && m.count(1) < 2; tries++) {
                write(x, m, 0, anyGround());
                hold("fault(0)", x.fault(0), m.fault(0));
                hold("ground(0)", x.ground(0), m.ground(0));
            }
            if (any(10) == 0) nearTheLastStep(x, m);
            for (int call = 0; call < CALLS / 8 && wrong == 0; call++) {
                switch (any(12)) {
                    case 0, 1 -> aboutRows(x, m);
                    case 2 -> aboutTexts(x, m);
                    case 3, 4 -> aboutGround(x, m);
                    case 5, 6, 7, 8 -> aboutSteps(x, m);
                    case 9, 10 -> aboutDrives(x, m);
                    default -> aboutWolves(x, m);
                }
                aboutWhatIsTold(x, m);
            }
        }
        System.out.println(wrong == 0 ? "all answers are as the model's" : wrong + " answers are not as the model's");
        if (wrong != 0) System.exit(1);
    }
}
