import java.util.ArrayList;
import java.util.Arrays;
import java.util.HashMap;
import java.util.List;
import java.util.Map;

/**
 * The document told a second time, in the plainest way and without a thought of room or speed: states that never
 * change, places as columns and rows, lists and maps. RunsAgainstModelTest holds the class against it.
 */
final class Model {
    static final int BAD = -1, FINDING = -3, STATE = -4, SPENT = -6, NONE = -9;
    static final String SIGNS = ".#~o=";
    static final String LETTERS = "bslcmt";
    static final int[][] WAY = {{0, -1}, {1, 0}, {0, 1}, {-1, 0}};

    record Spot(int x, int y) {
        int off(Spot s) {
            return Math.abs(x - s.x) + Math.abs(y - s.y);
        }

        Spot to(int way) {
            return new Spot(x + WAY[way][0], y + WAY[way][1]);
        }
    }

    record One(int kind, Spot spot, int gone) {
        boolean lost() {
            return spot == null;
        }
    }

    record Stirred(int beast, Spot spot) {
    }

    record State(List<One> ones, Stirred last, Stirred before, int step) {
        int lost() {
            return (int) ones.stream().filter(One::lost).count();
        }

        Integer at(Spot s) {
            for (int k = 0; k < ones.size(); k++) if (s.equals(ones.get(k).spot)) return k;
            return null;
        }
    }

    record Went(State state, List<Integer> beasts) {
    }

    record Ran(State state, int steps, boolean stand, Map<Integer, Integer> cells) {
    }

    final Map<Integer, int[]> rows = new HashMap<>();
    final Map<Integer, byte[]> texts = new HashMap<>();
    final Map<Integer, State> kept = new HashMap<>();
    int width = 0, height = 0;
    char[] signs = new char[0];
    State now = new State(List.of(), null, null, 0);
    int asked = 0, finding = 0;
    int[] findings = new int[6];
    long upper = 0, lower = 1;

    int find(int f) {
        finding = f;
        findings[f]++;
        return FINDING;
    }

    // ---- ground

    boolean isGround() {
        return width > 0;
    }

    boolean inside(Spot s) {
        return s.x >= 0 && s.y >= 0 && s.x < width && s.y < height;
    }

    char sign(Spot s) {
        return signs[s.y * width + s.x];
    }

    int number(Spot s) {
        return s == null ? NONE : s.y * width + s.x;
    }

    Spot spot(int c) {
        return new Spot(c % width, c / width);
    }

    static boolean shy(int kind) {
        return kind == 1 || kind == 5;
    }

    static boolean slow(int kind) {
        return kind == 2 || kind == 4;
    }

    // ---- steps

    boolean can(State s, int k, Spot to, boolean gateGone) {
        if (!inside(to)) return false;
        char sign = sign(to);
        if (sign == '#') return false;
        if (s.at(to) != null) return false;
        if (sign == '=') return s.ones.get(k).kind != 4 && !gateGone;
        return true;
    }

    State moved(State s, int k, Spot to) {
        List<One> ones = new ArrayList<>(s.ones);
        One was = ones.get(k);
        ones.set(k, new One(was.kind, sign(to) == '~' ? null : to, was.gone + 1));
        return new State(ones, s.last, s.before, s.step);
    }

    State stirred(State s, int k, Spot to) {
        return new State(s.ones, new Stirred(k, to), s.last, s.step);
    }

    State stirring(State s, int k, int way) {
        if (k >= s.ones.size() || s.ones.get(k).lost()) return null;
        Spot to = s.ones.get(k).spot.to(way);
        if (!can(s, k, to, false)) return null;
        return stirred(moved(s, k, to), k, to);
    }

    Spot aim(State s, int k) {
        if (s.last == null) return null;
        if (s.ones.get(k).kind == 3 && s.before != null) return s.before.spot;
        return s.last.spot;
    }

    /** The cells that a beast would try, the first first. */
    List<Spot> tries(State s, int k) {
        One one = s.ones.get(k);
        Spot aim = aim(s, k);
        List<Spot> tries = new ArrayList<>();
        if (aim == null || one.lost()) return tries;
        int off = one.spot.off(aim);
        boolean away = shy(one.kind);
        if (!away && off < 2) return tries;
        if (one.kind == 5 && off > 2) return tries;
        int dx = Integer.signum(aim.x - one.spot.x), dy = Integer.signum(aim.y - one.spot.y);
        if (away) {
            dx = -dx;
            dy = -dy;
        }
        Spot across = new Spot(one.spot.x + dx, one.spot.y);
        Spot down = new Spot(one.spot.x, one.spot.y + dy);
        boolean acrossFirst = Math.abs(aim.x - one.spot.x) >= Math.abs(aim.y - one.spot.y);
        if (acrossFirst && dx != 0) tries.add(across);
        if (dy != 0) tries.add(down);
        if (!acrossFirst && dx != 0) tries.add(across);
        return tries;
    }

    Went step(State s) {
        List<Integer> went = new ArrayList<>();
        State t = s;
        boolean gateGone = false;
        Spot lastSpot = null;
        for (int k = 0; k < s.ones.size(); k++) {
            One one = s.ones.get(k);
            if (one.lost()) continue;
            if (s.last != null && s.last.beast == k) continue;
            if (slow(one.kind) && s.step % 2 == 1) continue;
            for (Spot to : tries(s, k)) {
                if (!can(t, k, to, gateGone)) continue;
                t = moved(t, k, to);
                gateGone |= sign(to) == '=';
                went.add(k);
                lastSpot = to;
                break;
            }
        }
        if (lastSpot != null) t = stirred(t, went.get(went.size() - 1), lastSpot);
        return new Went(new State(t.ones, t.last, t.before, s.step + 1), went);
    }

    Ran ran(State s) {
        Map<Integer, Integer> cells = new HashMap<>();
        List<Boolean> quiet = new ArrayList<>();
        State t = s;
        while (quiet.size() < 40) {
            int n = quiet.size();
            if (n >= 2 && quiet.get(n - 1) && quiet.get(n - 2)) break;
            Went w = step(t);
            t = w.state;
            quiet.add(w.beasts.isEmpty());
            for (int k : w.beasts) cells.merge(k, 1, Integer::sum);
        }
        int n = quiet.size();
        boolean stand = n >= 2 && quiet.get(n - 1) && quiet.get(n - 2);
        return new Ran(t, n, stand, cells);
    }

    State driven(State s, int drive) {
        State t = stirring(s, drive / 4, drive % 4);
        return t == null ? null : ran(t).state;
    }

    boolean safe(State s) {
        if (s.ones.isEmpty()) return false;
        return s.ones.stream().allMatch(o -> !o.lost() && sign(o.spot) == 'o');
    }

    int apart(State s) {
        int sum = 0;
        for (One a : s.ones) for (One b : s.ones) if (!a.lost() && !b.lost()) sum += a.spot.off(b.spot);
        return sum / 2;
    }

    /** All rows of just n drives that can be, in their order, with the state behind each. */
    List<Map.Entry<List<Integer>, State>> rowsOf(State s, int n) {
        List<Map.Entry<List<Integer>, State>> all = new ArrayList<>();
        all.add(Map.entry(List.of(), s));
        for (int i = 0; i < n; i++) {
            List<Map.Entry<List<Integer>, State>> longer = new ArrayList<>();
            for (Map.Entry<List<Integer>, State> e : all) {
                for (int d = 0; d < 4 * s.ones.size(); d++) {
                    State t = driven(e.getValue(), d);
                    if (t == null) continue;
                    List<Integer> row = new ArrayList<>(e.getKey());
                    row.add(d);
                    longer.add(Map.entry(row, t));
                }
            }
            all = longer;
        }
        return all;
    }

    // ---- calls, 1

    int row(int r, int n) {
        if (r < 0 || r > 5 || n > 60) return BAD;
        if (n < 0) return find(5);
        rows.put(r, new int[n]);
        return n;
    }

    int lay(int r, int i, int v) {
        int a = at(r, i, false);
        if (a == 1) {
            asked = rows.get(r)[i];
            rows.get(r)[i] = v;
        }
        return a;
    }

    int at(int r, int i) {
        return at(r, i, true);
    }

    private int at(int r, int i, boolean tell) {
        if (r < 0 || r > 5) return BAD;
        if (!rows.containsKey(r)) return find(1);
        if (i < 0 || i >= rows.get(r).length) return find(2);
        if (tell) asked = rows.get(r)[i];
        return 1;
    }

    int tear(int r) {
        if (r < 0 || r > 5) return BAD;
        return rows.remove(r) == null ? find(1) : 1;
    }

    int copy(int r, int i, int to, int j, int n) {
        if (r < 0 || r > 5 || to < 0 || to > 5) return BAD;
        if (n < 0) return find(5);
        if (!rows.containsKey(r) || !rows.containsKey(to)) return find(1);
        if (i < 0 || j < 0 || (long) i + n > rows.get(r).length || (long) j + n > rows.get(to).length) return find(2);
        int[] taken = Arrays.copyOfRange(rows.get(r), i, i + n);
        for (int p = 0; p < n; p++) rows.get(to)[j + p] = taken[p];
        return 1;
    }

    int mean(int r) {
        if (r < 0 || r > 5) return BAD;
        if (!rows.containsKey(r)) return find(1);
        if (rows.get(r).length == 0) return find(4);
        long sum = Arrays.stream(rows.get(r)).asLongStream().sum();
        asked = (int) (sum / rows.get(r).length);
        return 1;
    }

    int text(int t, int n) {
        if (t < 0 || t > 3 || n > 80) return BAD;
        if (n < 0) return find(5);
        byte[] b = new byte[n];
        Arrays.fill(b, (byte) 32);
        texts.put(t, b);
        return n;
    }

    int put(int t, int i, int v) {
        if (t < 0 || t > 3) return BAD;
        if (!texts.containsKey(t)) return find(1);
        if (i < 0 || i >= texts.get(t).length) return find(2);
        int was = texts.get(t)[i];
        texts.get(t)[i] = (byte) v;
        return was + 1000;
    }

    /** Reads sign by sign: what is awaited next, and what has come so far. */
    final class Parse {
        String awaited = "g";
        int w, h, kind, x;
        StringBuilder cells = new StringBuilder();
        List<One> ones = new ArrayList<>();

        boolean feed(char ch) {
            boolean between = awaited.equals("g") || awaited.equals("cell") || awaited.equals("beast");
            if (ch == ' ') return between;
            int figure = ch - '0';
            switch (awaited) {
                case "g":
                    awaited = "w";
                    return ch == 'g';
                case "w":
                    w = figure;
                    awaited = "h";
                    return w >= 2 && w <= 6;
                case "h":
                    h = figure;
                    awaited = "cell";
                    return h >= 1 && h <= 5;
                case "cell":
                    cells.append(ch);
                    if (cells.length() == w * h) awaited = "beast";
                    return SIGNS.indexOf(ch) >= 0;
                case "beast":
                    kind = LETTERS.indexOf(ch);
                    awaited = "x";
                    return kind >= 0 && ones.size() < 4;
                case "x":
                    x = figure;
                    awaited = "y";
                    return x >= 0 && x < w;
                default:
                    awaited = "beast";
                    if (figure < 0 || figure >= h) return false;
                    Spot s = new Spot(x, figure);
                    char sign = cells.charAt(figure * w + x);
                    if (sign == '#' || sign == '~') return false;
                    for (One o : ones) if (o.spot.equals(s)) return false;
                    ones.add(new One(kind, s, 0));
                    return true;
            }
        }
    }

    Parse parsed;

    private int parse(byte[] b) {
        parsed = new Parse();
        for (int i = 0; i < b.length; i++) if (!parsed.feed((char) (b[i] & 255))) return i;
        return parsed.awaited.equals("beast") ? NONE : b.length;
    }

    int fault(int t) {
        if (t < 0 || t > 3) return BAD;
        if (!texts.containsKey(t)) return find(1);
        return parse(texts.get(t));
    }

    int ground(int t) {
        if (t < 0 || t > 3) return BAD;
        if (!texts.containsKey(t)) return find(1);
        if (parse(texts.get(t)) != NONE) return STATE;
        width = parsed.w;
        height = parsed.h;
        signs = parsed.cells.toString().toCharArray();
        now = new State(parsed.ones, null, null, 0);
        kept.clear();
        return now.ones.size();
    }

    boolean noCell(int c) {
        return c < 0 || c >= width * height;
    }

    boolean noBeast(int k) {
        return k < 0 || k >= now.ones.size();
    }

    int cell(int c) {
        if (noCell(c)) return BAD;
        Integer who = now.at(spot(c));
        asked = who == null ? NONE : who;
        return SIGNS.indexOf(signs[c]);
    }

    int build(int c, int what) {
        if (noCell(c) || what < 0 || what > 4) return BAD;
        if ((what == 1 || what == 2) && now.at(spot(c)) != null) return STATE;
        int was = SIGNS.indexOf(signs[c]);
        signs[c] = SIGNS.charAt(what);
        return was;
    }

    int beast(int k, int what) {
        if (noBeast(k) || what < 0 || what > 2) return BAD;
        One o = now.ones.get(k);
        asked = new int[] {o.kind, number(o.spot), o.gone}[what];
        return 1;
    }

    int mark(int k, int kind) {
        if (noBeast(k) || kind < 1 || kind > 5) return BAD;
        One o = now.ones.get(k);
        boolean is = kind == 1 ? shy(o.kind) : kind == 2 ? slow(o.kind) : kind == o.kind;
        if (!is) return find(3);
        if (kind == 1) return now.last == null || o.lost() ? NONE : o.spot.off(now.last.spot);
        if (kind == 2) return now.step % 2;
        if (kind == 3) return number(aim(now, k));
        if (kind == 4) return (int) new String(signs).chars().filter(c -> c == '=').count();
        if (o.lost()) return NONE;
        return (int) now.ones.stream().filter(p -> p != o && !p.lost() && p.spot.off(o.spot) < 3).count();
    }

    int last() {
        asked = now.last == null ? NONE : number(now.last.spot);
        return now.last == null ? NONE : now.last.beast;
    }

    // ---- calls, 2

    int stir(int k, int way) {
        if (noBeast(k) || way < 0 || way > 3) return BAD;
        State t = stirring(now, k, way);
        if (t == null) return STATE;
        now = t;
        return number(t.last.spot);
    }

    int go(int n) {
        if (n < 0 || n > 40) return BAD;
        if (!isGround()) return STATE;
        if (now.step + n > 10000) return SPENT;
        int bits = 0;
        for (int i = 0; i < n; i++) {
            Went w = step(now);
            now = w.state;
            bits = 0;
            for (int k : w.beasts) bits |= 1 << k;
        }
        return bits;
    }

    int run() {
        if (!isGround()) return STATE;
        if (now.step > 9960) return SPENT;
        Ran r = ran(now);
        now = r.state;
        asked = r.stand ? 1 : 0;
        return r.steps;
    }

    int ring() {
        if (!isGround()) return STATE;
        Map<String, Integer> seen = new HashMap<>();
        State t = now;
        for (int n = 0; n <= 200; n++) {
            StringBuilder all = new StringBuilder();
            for (One o : t.ones) all.append(o.spot).append(';');
            all.append(t.last).append(t.before).append(t.step % 2);
            Integer earlier = seen.putIfAbsent(all.toString(), n);
            if (earlier != null) {
                asked = n - earlier;
                return n;
            }
            t = step(t).state;
        }
        return NONE;
    }

    int where(int r) {
        if (r < 0 || r > 5) return BAD;
        rows.put(r, now.ones.stream().mapToInt(o -> number(o.spot)).toArray());
        return now.lost();
    }

    int apart() {
        return apart(now);
    }

    int keep(int k) {
        if (k < 0 || k > 2) return BAD;
        if (!isGround()) return STATE;
        kept.put(k, now);
        return now.step;
    }

    int on(int k) {
        if (k < 0 || k > 2) return BAD;
        if (!kept.containsKey(k)) return find(1);
        now = kept.get(k);
        return now.step;
    }

    // ---- calls, 3

    int fewest() {
        if (!isGround()) return STATE;
        for (int n = 0; n <= 3; n++) {
            for (Map.Entry<List<Integer>, State> e : rowsOf(now, n)) {
                if (!safe(e.getValue())) continue;
                int code = 0;
                for (int d : e.getKey()) code = 16 * code + d;
                asked = code;
                return n;
            }
        }
        return NONE;
    }

    int ways(int n) {
        if (n < 1 || n > 2) return BAD;
        List<Map.Entry<List<Integer>, State>> all = rowsOf(now, n);
        if (all.isEmpty()) return find(4);
        int good = (int) all.stream().filter(e -> safe(e.getValue())).count();
        long a = good, b = all.size();
        while (b != 0) {
            long c = a % b;
            a = b;
            b = c;
        }
        upper = good / a;
        lower = all.size() / a;
        return good;
    }

    int gather() {
        int best = NONE, least = Integer.MAX_VALUE;
        for (Map.Entry<List<Integer>, State> e : rowsOf(now, 1)) {
            State t = e.getValue();
            if (t.lost() > now.lost() || apart(t) >= least) continue;
            best = e.getKey().get(0);
            least = apart(t);
        }
        if (best != NONE) asked = least;
        return best;
    }

    int part(int k, int j) {
        if (noBeast(k) || noBeast(j) || k == j) return BAD;
        int best = NONE, most = -1;
        for (Map.Entry<List<Integer>, State> e : rowsOf(now, 1)) {
            One a = e.getValue().ones.get(k), b = e.getValue().ones.get(j);
            if (a.lost() || b.lost() || a.spot.off(b.spot) <= most) continue;
            best = e.getKey().get(0);
            most = a.spot.off(b.spot);
        }
        if (best != NONE) asked = most;
        return best;
    }

    int worth(int k, int way) {
        if (noBeast(k) || way < 0 || way > 3) return BAD;
        State t = stirring(now, k, way);
        if (t == null) return STATE;
        Map<Integer, Integer> cells = ran(t).cells;
        asked = cells.values().stream().mapToInt(v -> v).sum();
        return cells.size();
    }

    int stone(int c) {
        if (noCell(c) || signs[c] == '#') return BAD;
        Spot at = spot(c);
        int went = 0;
        Stirred latest = null;
        for (int k = 0; k < now.ones.size(); k++) {
            Spot s = now.ones.get(k).spot;
            if (s == null || s.off(at) != 1) continue;
            Spot to = new Spot(2 * s.x - at.x, 2 * s.y - at.y);
            if (!can(now, k, to, false)) continue;
            now = moved(now, k, to);
            latest = new Stirred(k, to);
            went++;
        }
        if (latest != null) now = stirred(now, latest.beast, latest.spot);
        return went;
    }

    int drive(int r) {
        if (r < 0 || r > 5) return BAD;
        if (!isGround()) return STATE;
        if (!rows.containsKey(r)) return find(1);
        for (int d : rows.get(r)) if (d < 0 || d >= 4 * now.ones.size()) return find(3);
        if (now.step + 40 * rows.get(r).length > 10000) return SPENT;
        int done = 0;
        for (int d : rows.get(r)) {
            State t = driven(now, d);
            if (t == null) break;
            now = t;
            done++;
        }
        asked = now.lost();
        return done;
    }

    // ---- calls, 4

    boolean dry(Spot s) {
        return inside(s) && sign(s) != '#' && sign(s) != '~';
    }

    int reach(int c, int gates) {
        if (noCell(c) || gates < 0 || gates > 1) return BAD;
        return reach(spot(c), gates == 1);
    }

    private int reach(Spot from, boolean gates) {
        if (!dry(from)) return 0;
        List<Spot> found = new ArrayList<>(List.of(from));
        for (int i = 0; i < found.size(); i++) {
            for (int way = 0; way < 4; way++) {
                Spot to = found.get(i).to(way);
                if (dry(to) && (gates || sign(to) != '=') && !found.contains(to)) found.add(to);
            }
        }
        return found.stream().mapToInt(s -> 1 << number(s)).sum();
    }

    int never() {
        List<Integer> pairs = new ArrayList<>();
        for (int k = 0; k < now.ones.size(); k++) {
            for (int j = k + 1; j < now.ones.size(); j++) {
                Spot a = now.ones.get(k).spot, b = now.ones.get(j).spot;
                if (a != null && b != null && (reach(a, true) & 1 << number(b)) == 0) pairs.add(10 * k + j);
            }
        }
        asked = pairs.isEmpty() ? NONE : pairs.get(0);
        return pairs.size();
    }

    private Integer shepherd(State s, Spot wolf, int turns, int lostNow) {
        if (turns == 0) return NONE;
        for (int drive = -1; drive < 4 * s.ones.size(); drive++) {
            State t = drive < 0 ? s : driven(s, drive);
            if (t == null || t.lost() > lostNow) continue;
            List<Spot> goals = new ArrayList<>(List.of(wolf));
            for (int way = 0; way < 4; way++) if (dry(wolf.to(way))) goals.add(wolf.to(way));
            State u = t;
            if (goals.stream().allMatch(g -> u.at(g) == null && shepherd(u, g, turns - 1, lostNow) != null)) {
                return drive < 0 ? NONE : drive;
            }
        }
        return null;
    }

    int wolf(int c, int n) {
        if (noCell(c) || !dry(spot(c)) || n < 1 || n > 2) return BAD;
        if (now.at(spot(c)) != null) return STATE;
        Integer by = shepherd(now, spot(c), n, now.lost());
        asked = by == null ? NONE : by;
        return by == null ? 0 : 1;
    }

    private int badDawn(int r) {
        if (r < 0 || r > 5) return BAD;
        if (!rows.containsKey(r)) return find(1);
        if (rows.get(r).length != now.ones.size()) return find(5);
        for (int c : rows.get(r)) if (c != NONE && noCell(c)) return find(3);
        return 0;
    }

    private List<List<Integer>> toDawn(int r) {
        for (int n = 0; n <= 2; n++) {
            List<List<Integer>> good = new ArrayList<>();
            for (Map.Entry<List<Integer>, State> e : rowsOf(now, n)) {
                int[] at = e.getValue().ones.stream().mapToInt(o -> number(o.spot)).toArray();
                if (Arrays.equals(at, rows.get(r))) good.add(e.getKey());
            }
            if (!good.isEmpty()) return good;
        }
        return List.of();
    }

    int dawn(int r) {
        int bad = badDawn(r);
        if (bad != 0) return bad;
        List<List<Integer>> good = toDawn(r);
        if (good.isEmpty()) return NONE;
        asked = good.size();
        return good.get(0).size();
    }

    int who(int r) {
        int bad = badDawn(r);
        if (bad != 0) return bad;
        List<List<Integer>> good = toDawn(r);
        if (good.isEmpty() || good.get(0).isEmpty()) return NONE;
        int beasts = 0, ways = 0;
        for (List<Integer> row : good) {
            beasts |= 1 << row.get(0) / 4;
            ways |= 1 << row.get(0) % 4;
        }
        asked = ways;
        return beasts;
    }

    int breed(int kind) {
        if (kind < 0 || kind > 5) return BAD;
        if (!isGround()) return STATE;
        List<One> ones = new ArrayList<>();
        for (One o : now.ones) ones.add(new One(kind, o.spot, o.gone));
        State s = new State(ones, now.last, now.before, now.step);
        for (int n = 0; n <= 2; n++) {
            if (rowsOf(s, n).stream().anyMatch(e -> safe(e.getValue()))) return n;
        }
        return NONE;
    }

    // ---- calls, 5

    int count(int what) {
        switch (what) {
            case 0: return width * height;
            case 1: return now.ones.size();
            case 2: return now.lost();
            case 3: return now.step;
            case 4: return (int) now.ones.stream().filter(o -> shy(o.kind)).count();
            case 5: return kept.size();
            case 6: return rows.size();
            case 7: return texts.size();
            default: return BAD;
        }
    }

    int findings(int f) {
        return f < 1 || f > 5 ? BAD : findings[f];
    }

    long digest() {
        List<Integer> v = new ArrayList<>();
        for (int what = 0; what < 8; what++) v.add(count(what));
        for (char s : signs) v.add(SIGNS.indexOf(s));
        for (One o : now.ones) v.addAll(List.of(o.kind, number(o.spot), o.gone));
        for (Stirred s : Arrays.asList(now.last, now.before)) {
            v.add(s == null ? NONE : s.beast);
            v.add(s == null ? NONE : number(s.spot));
        }
        for (int k = 0; k < 3; k++) v.add(kept.containsKey(k) ? kept.get(k).step : -1);
        for (int r = 0; r < 6; r++) {
            v.add(rows.containsKey(r) ? rows.get(r).length : -1);
            if (rows.containsKey(r)) for (int p : rows.get(r)) v.add(p);
        }
        for (int t = 0; t < 4; t++) {
            v.add(texts.containsKey(t) ? texts.get(t).length : -1);
            if (texts.containsKey(t)) for (byte b : texts.get(t)) v.add((int) b);
        }
        long h = 17;
        for (int one : v) h = 31 * h + one;
        return h;
    }
}
