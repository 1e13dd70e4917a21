import java.util.Arrays;

/** A flock that follows whichever of it stirred last, on a ground of cells. */
public final class LastStirred {
    public static final int BAD = -1, FULL = -2, FINDING = -3, STATE = -4, SPENT = -6, NONE = -9;

    private static final int NOTHING = 1, BEYOND = 2, UNLIKE = 3, NOUGHT = 4, SIZE = 5;
    private static final int WALL = 1, WATER = 2, FOLD = 3, GATE = 4;
    private static final int SHY = 1, SLOW = 2, CHASER = 3, LAME = 4, TIMID = 5;
    private static final int MOST_BEASTS = 4, WAYS = 4;
    private static final int LAST_STEP = 10000, RUN_STEPS = 40, RING_STEPS = 200;
    private static final int MISSING = -1, MORE = 1000;

    private final Shelf rows = new Shelf(new int[6][60]);
    private final Shelf texts = new Shelf(new int[4][80]);
    private final Reader reader = new Reader();
    private final Ground ground = new Ground();
    private final Flock flock = new Flock();
    private final Flock[] kept = {new Flock(), new Flock(), new Flock()};
    private final Flock trial = new Flock();
    private final long[] trail = new long[RING_STEPS + 1];
    private final Search search = new Search();
    private final Watch watch = new Watch();
    private final int[] found = new int[SIZE + 1];
    private int keptPlaces;
    private int latest;
    private int told;
    private long up;
    private long low = 1;

    public LastStirred() {
    }

    // ---- 1 rows, texts, grounds

    public int row(int r, int n) {
        return makeIn(rows, r, n, 0);
    }

    public int lay(int r, int i, int v) {
        int refused = refusedPlace(rows, r, i);
        if (refused != 0) return refused;
        told = rows.place[r][i];
        rows.place[r][i] = v;
        return 1;
    }

    public int at(int r, int i) {
        int refused = refusedPlace(rows, r, i);
        if (refused != 0) return refused;
        told = rows.place[r][i];
        return 1;
    }

    public int tear(int r) {
        int refused = refusedMissing(rows, r);
        if (refused != 0) return refused;
        rows.size[r] = MISSING;
        return 1;
    }

    public int copy(int r, int i, int to, int j, int n) {
        if (!rows.has(r) || !rows.has(to)) return BAD;
        if (n < 0) return finds(SIZE);
        if (rows.size[r] == MISSING || rows.size[to] == MISSING) return finds(NOTHING);
        if (!fits(i, n, rows.size[r]) || !fits(j, n, rows.size[to])) return finds(BEYOND);
        System.arraycopy(rows.place[r], i, rows.place[to], j, n);
        return 1;
    }

    public int mean(int r) {
        int refused = refusedMissing(rows, r);
        if (refused != 0) return refused;
        int size = rows.size[r];
        if (size == 0) return finds(NOUGHT);
        long sum = 0;
        for (int i = 0; i < size; i++) sum += rows.place[r][i];
        told = (int) (sum / size);
        return 1;
    }

    public int text(int t, int n) {
        return makeIn(texts, t, n, ' ');
    }

    public int put(int t, int i, int v) {
        int refused = refusedPlace(texts, t, i);
        if (refused != 0) return refused;
        int was = texts.place[t][i];
        texts.place[t][i] = (byte) v;
        return was + MORE;
    }

    public int fault(int t) {
        int refused = refusedMissing(texts, t);
        if (refused != 0) return refused;
        return reader.readAll(texts.place[t], texts.size[t]);
    }

    public int ground(int t) {
        int refused = refusedMissing(texts, t);
        if (refused != 0) return refused;
        if (reader.readAll(texts.place[t], texts.size[t]) != NONE) return STATE;
        ground.take(reader.ground);
        flock.take(reader.flock);
        keptPlaces = 0;
        return flock.size;
    }

    public int cell(int c) {
        if (!ground.has(c)) return BAD;
        told = flock.whoIsIn(c);
        return ground.what[c];
    }

    public int build(int c, int what) {
        if (!ground.has(c) || what < 0 || what > GATE) return BAD;
        if (flock.isIn(c) && (what == WALL || what == WATER)) return STATE;
        int was = ground.what[c];
        ground.what[c] = what;
        return was;
    }

    public int beast(int k, int what) {
        if (!flock.has(k) || what < 0 || what > 2) return BAD;
        told = flock.tells(k, what);
        return 1;
    }

    public int mark(int k, int kind) {
        if (!flock.has(k) || kind < SHY || kind > TIMID) return BAD;
        if (!flock.isOf(k, kind)) return finds(UNLIKE);
        switch (kind) {
            case SHY: return offLast(k);
            case SLOW: return flock.step & 1;
            case CHASER: return flock.aimOf(k);
            case LAME: return ground.howMany(GATE);
            default: return othersNear(k);
        }
    }

    public int last() {
        told = flock.lastCell;
        return flock.last;
    }

    // ---- 2 steps, runs

    public int stir(int k, int way) {
        if (!flock.has(k) || !isWay(way)) return BAD;
        int to = flock.stirBy(ground, k, way);
        return to == NONE ? STATE : to;
    }

    public int go(int n) {
        if (n < 0 || n > RUN_STEPS) return BAD;
        if (ground.size == 0) return STATE;
        if (flock.step + n > LAST_STEP) return SPENT;
        int went = 0;
        for (int i = 0; i < n; i++) went = flock.takeStep(ground);
        return went;
    }

    public int run() {
        if (ground.size == 0) return STATE;
        if (flock.step > LAST_STEP - RUN_STEPS) return SPENT;
        int before = flock.step;
        told = flock.runOut(ground) ? 1 : 0;
        return flock.step - before;
    }

    public int ring() {
        if (ground.size == 0) return STATE;
        trial.take(flock);
        for (int n = 0; n <= RING_STEPS; n++) {
            trail[n] = trial.inOneNumber();
            for (int m = 0; m < n; m++) {
                if (trail[m] == trail[n]) {
                    told = n - m;
                    return n;
                }
            }
            trial.takeStep(ground);
        }
        return NONE;
    }

    public int where(int r) {
        if (!rows.has(r)) return BAD;
        rows.make(r, flock.size, 0);
        for (int k = 0; k < flock.size; k++) rows.place[r][k] = flock.cell[k];
        return flock.lostOnes();
    }

    public int apart() {
        return flock.allOff(ground);
    }

    public int keep(int k) {
        if (!isPlace(k)) return BAD;
        if (ground.size == 0) return STATE;
        kept[k].take(flock);
        keptPlaces |= 1 << k;
        return flock.step;
    }

    public int on(int k) {
        if (!isPlace(k)) return BAD;
        if (!isKept(k)) return finds(NOTHING);
        flock.take(kept[k]);
        return flock.step;
    }

    // ---- 3 drives (from as it is; it stays)

    public int fewest() {
        if (ground.size == 0) return STATE;
        search.seekSafe();
        int few = search.fewFrom(ground, flock, 3);
        if (few != NONE) told = search.first;
        return few;
    }

    public int ways(int n) {
        if (n < 1 || n > 2) return BAD;
        search.seekSafe();
        search.allFrom(ground, flock, n);
        if (search.rows == 0) return finds(NOUGHT);
        tellFraction(search.hits, search.rows);
        return search.hits;
    }

    public int gather() {
        int best = NONE;
        int least = 0;
        int lostNow = flock.lostOnes();
        for (int drive = 0; drive < flock.drives(); drive++) {
            if (!tryDrive(drive) || trial.lostOnes() > lostNow) continue;
            int off = trial.allOff(ground);
            if (best == NONE || off < least) {
                best = drive;
                least = off;
            }
        }
        if (best != NONE) told = least;
        return best;
    }

    public int part(int k, int j) {
        if (!flock.has(k) || !flock.has(j) || k == j) return BAD;
        int best = NONE;
        int most = 0;
        for (int drive = 0; drive < flock.drives(); drive++) {
            if (!tryDrive(drive) || trial.isLost(k) || trial.isLost(j)) continue;
            int off = ground.off(trial.cell[k], trial.cell[j]);
            if (best == NONE || off > most) {
                best = drive;
                most = off;
            }
        }
        if (best != NONE) told = most;
        return best;
    }

    public int worth(int k, int way) {
        if (!flock.has(k) || !isWay(way)) return BAD;
        trial.take(flock);
        if (trial.stirBy(ground, k, way) == NONE) return STATE;
        trial.forgetGone();
        trial.runOut(ground);
        int beasts = 0;
        int cells = 0;
        for (int i = 0; i < trial.size; i++) {
            if (trial.gone[i] > 0) beasts++;
            cells += trial.gone[i];
        }
        told = cells;
        return beasts;
    }

    public int stone(int c) {
        if (!ground.has(c) || ground.what[c] == WALL) return BAD;
        return flock.fleeFrom(ground, c);
    }

    public int drive(int r) {
        if (!rows.has(r)) return BAD;
        if (ground.size == 0) return STATE;
        if (rows.size[r] == MISSING) return finds(NOTHING);
        int size = rows.size[r];
        for (int i = 0; i < size; i++) {
            int drive = rows.place[r][i];
            if (drive < 0 || drive >= flock.drives()) return finds(UNLIKE);
        }
        if (flock.step + RUN_STEPS * size > LAST_STEP) return SPENT;
        int done = 0;
        while (done < size && flock.driveBy(ground, rows.place[r][done])) done++;
        told = flock.lostOnes();
        return done;
    }

    // ---- 4 walls, wolves, dusk and dawn, breeds

    public int reach(int c, int gates) {
        if (!ground.has(c) || gates < 0 || gates > 1) return BAD;
        return ground.reachFrom(c, gates == 1);
    }

    public int never() {
        int pairs = 0;
        told = NONE;
        for (int k = 0; k < flock.size; k++) {
            if (flock.isLost(k)) continue;
            int reached = ground.reachFrom(flock.cell[k], true);
            for (int j = k + 1; j < flock.size; j++) {
                if (flock.isLost(j) || (reached >> flock.cell[j] & 1) == 1) continue;
                if (pairs == 0) told = 10 * k + j;
                pairs++;
            }
        }
        return pairs;
    }

    public int wolf(int c, int n) {
        if (!ground.has(c) || !ground.isOpen(c) || n < 1 || n > 2) return BAD;
        if (flock.isIn(c)) return STATE;
        boolean holds = watch.keepsAll(ground, flock, c, n);
        told = holds ? watch.first : NONE;
        return holds ? 1 : 0;
    }

    public int dawn(int r) {
        int refused = refusedDawn(r);
        if (refused != 0) return refused;
        search.seekDawn(rows.place[r]);
        int few = search.fewFrom(ground, flock, 2);
        if (few != NONE) told = search.hits;
        return few;
    }

    public int who(int r) {
        int refused = refusedDawn(r);
        if (refused != 0) return refused;
        search.seekDawn(rows.place[r]);
        int few = search.fewFrom(ground, flock, 2);
        if (few == NONE || few == 0) return NONE;
        told = search.ways;
        return search.beasts;
    }

    public int breed(int kind) {
        if (kind < 0 || kind > TIMID) return BAD;
        if (ground.size == 0) return STATE;
        trial.take(flock);
        Arrays.fill(trial.kind, kind);
        search.seekSafe();
        return search.fewFrom(ground, trial, 2);
    }

    // ---- 5 what is told

    public int asked() {
        return told;
    }

    public long upper() {
        return up;
    }

    public long lower() {
        return low;
    }

    public int count(int what) {
        switch (what) {
            case 0: return ground.size;
            case 1: return flock.size;
            case 2: return flock.lostOnes();
            case 3: return flock.step;
            case 4: return flock.shyOnes();
            case 5: return Integer.bitCount(keptPlaces);
            case 6: return rows.thereAre();
            case 7: return texts.thereAre();
            default: return BAD;
        }
    }

    public int finding() {
        return latest;
    }

    public int findings(int f) {
        if (f < NOTHING || f > SIZE) return BAD;
        return found[f];
    }

    public long digest() {
        long h = 17;
        for (int what = 0; what < 8; what++) h = 31 * h + count(what);
        for (int c = 0; c < ground.size; c++) h = 31 * h + ground.what[c];
        for (int k = 0; k < flock.size; k++) {
            for (int what = 0; what < 3; what++) h = 31 * h + flock.tells(k, what);
        }
        h = 31 * h + flock.last;
        h = 31 * h + flock.lastCell;
        h = 31 * h + flock.before;
        h = 31 * h + flock.beforeCell;
        for (int k = 0; k < kept.length; k++) h = 31 * h + (isKept(k) ? kept[k].step : MISSING);
        return texts.addTo(rows.addTo(h));
    }

    // ---- what the calls share

    private int finds(int f) {
        latest = f;
        found[f]++;
        return FINDING;
    }

    private int makeIn(Shelf shelf, int r, int n, int v) {
        if (!shelf.has(r) || n > shelf.place[r].length) return BAD;
        if (n < 0) return finds(SIZE);
        shelf.make(r, n, v);
        return n;
    }

    private int refusedMissing(Shelf shelf, int r) {
        if (!shelf.has(r)) return BAD;
        return shelf.size[r] == MISSING ? finds(NOTHING) : 0;
    }

    private int refusedPlace(Shelf shelf, int r, int i) {
        int refused = refusedMissing(shelf, r);
        if (refused != 0) return refused;
        return i < 0 || i >= shelf.size[r] ? finds(BEYOND) : 0;
    }

    private int refusedDawn(int r) {
        int refused = refusedMissing(rows, r);
        if (refused != 0) return refused;
        if (rows.size[r] != flock.size) return finds(SIZE);
        for (int k = 0; k < flock.size; k++) {
            int c = rows.place[r][k];
            if (c != NONE && !ground.has(c)) return finds(UNLIKE);
        }
        return 0;
    }

    private static boolean fits(int i, int n, int size) {
        return i >= 0 && i <= size && n <= size - i;
    }

    private static boolean isWay(int way) {
        return way >= 0 && way < WAYS;
    }

    private boolean isPlace(int k) {
        return k >= 0 && k < kept.length;
    }

    private boolean isKept(int k) {
        return (keptPlaces >> k & 1) == 1;
    }

    private int offLast(int k) {
        if (flock.last == NONE || flock.isLost(k)) return NONE;
        return ground.off(flock.cell[k], flock.lastCell);
    }

    private int othersNear(int k) {
        if (flock.isLost(k)) return NONE;
        int near = 0;
        for (int j = 0; j < flock.size; j++) {
            if (j != k && !flock.isLost(j) && ground.off(flock.cell[k], flock.cell[j]) < 3) near++;
        }
        return near;
    }

    private boolean tryDrive(int drive) {
        trial.take(flock);
        return trial.driveBy(ground, drive);
    }

    private void tellFraction(int upper, int lower) {
        up = upper;
        low = lower;
        for (int d = lower; d > 1; d--) {
            if (up % d == 0 && low % d == 0) {
                up /= d;
                low /= d;
            }
        }
    }

    private static int placeOf(int[] list, int v) {
        for (int i = 0; i < list.length; i++) {
            if (list[i] == v) return i;
        }
        return NONE;
    }

    /** Rows of numbers, held in full from the start: what a call made anew would never leave the room. */
    private static final class Shelf {
        final int[][] place;
        final int[] size;

        Shelf(int[][] places) {
            place = places;
            size = new int[places.length];
            Arrays.fill(size, MISSING);
        }

        boolean has(int r) {
            return r >= 0 && r < size.length;
        }

        void make(int r, int n, int v) {
            Arrays.fill(place[r], v);
            size[r] = n;
        }

        int thereAre() {
            int n = 0;
            for (int s : size) {
                if (s != MISSING) n++;
            }
            return n;
        }

        long addTo(long h) {
            long sum = h;
            for (int r = 0; r < size.length; r++) {
                sum = 31 * sum + size[r];
                for (int i = 0; i < size[r]; i++) sum = 31 * sum + place[r][i];
            }
            return sum;
        }
    }

    /** The cells, and what they are. */
    private static final class Ground {
        private static final int MOST_CELLS = 30;
        private static final int[] ACROSS = {0, 1, 0, -1};
        private static final int[] DOWN = {-1, 0, 1, 0};

        final int[] what = new int[MOST_CELLS];
        // Kept beside the cells, so that no step of a search has to divide.
        final int[] column = new int[MOST_CELLS];
        final int[] line = new int[MOST_CELLS];
        int width;
        int height;
        int size;

        void spread(int w, int h) {
            width = w;
            height = h;
            size = 0;
            for (int y = 0; y < h; y++) {
                for (int x = 0; x < w && size < MOST_CELLS; x++) {
                    column[size] = x;
                    line[size] = y;
                    size++;
                }
            }
        }

        void take(Ground other) {
            spread(other.width, other.height);
            System.arraycopy(other.what, 0, what, 0, MOST_CELLS);
        }

        boolean has(int c) {
            return c >= 0 && c < size;
        }

        boolean isOpen(int c) {
            return what[c] != WALL && what[c] != WATER;
        }

        int off(int a, int b) {
            return Math.abs(column[a] - column[b]) + Math.abs(line[a] - line[b]);
        }

        int beside(int c, int way) {
            int x = column[c] + ACROSS[way];
            int y = line[c] + DOWN[way];
            return x < 0 || x >= width || y < 0 || y >= height ? NONE : y * width + x;
        }

        int howMany(int kind) {
            int n = 0;
            for (int c = 0; c < size; c++) {
                if (what[c] == kind) n++;
            }
            return n;
        }

        int reachFrom(int c, boolean gates) {
            if (!isOpen(c)) return 0;
            int reached = 1 << c;
            int before = 0;
            for (int round = 0; round < size && reached != before; round++) {
                before = reached;
                for (int from = 0; from < size; from++) {
                    if ((reached >> from & 1) == 1) reached |= openBeside(from, gates);
                }
            }
            return reached;
        }

        private int openBeside(int c, boolean gates) {
            int open = 0;
            for (int way = 0; way < WAYS; way++) {
                int to = beside(c, way);
                if (to != NONE && isOpen(to) && (gates || what[to] != GATE)) open |= 1 << to;
            }
            return open;
        }
    }

    /** The beasts, who of them stirred last, and how many steps are done. */
    private static final class Flock {
        final int[] kind = new int[MOST_BEASTS];
        final int[] cell = new int[MOST_BEASTS];
        final int[] gone = new int[MOST_BEASTS];
        int size;
        int last = NONE;
        int lastCell = NONE;
        int before = NONE;
        int beforeCell = NONE;
        int step;
        // The cells with a beast, as bits: asked far more often than changed.
        private int full;

        void clear() {
            size = 0;
            last = NONE;
            lastCell = NONE;
            before = NONE;
            beforeCell = NONE;
            step = 0;
            full = 0;
        }

        void add(int kindOf, int c) {
            if (size >= MOST_BEASTS) return;
            kind[size] = kindOf;
            cell[size] = c;
            gone[size] = 0;
            full |= 1 << c;
            size++;
        }

        void take(Flock other) {
            size = other.size;
            for (int k = 0; k < size; k++) {
                kind[k] = other.kind[k];
                cell[k] = other.cell[k];
                gone[k] = other.gone[k];
            }
            last = other.last;
            lastCell = other.lastCell;
            before = other.before;
            beforeCell = other.beforeCell;
            step = other.step;
            full = other.full;
        }

        void forgetGone() {
            Arrays.fill(gone, 0);
        }

        boolean has(int k) {
            return k >= 0 && k < size;
        }

        boolean isLost(int k) {
            return cell[k] == NONE;
        }

        boolean isIn(int c) {
            return (full >> c & 1) == 1;
        }

        int whoIsIn(int c) {
            for (int k = 0; k < size; k++) {
                if (cell[k] == c) return k;
            }
            return NONE;
        }

        boolean isOf(int k, int kindOf) {
            return kind[k] == kindOf || kindOf == SHY && isShy(k) || kindOf == SLOW && isSlow(k);
        }

        boolean isShy(int k) {
            return kind[k] == SHY || kind[k] == TIMID;
        }

        private boolean isSlow(int k) {
            return kind[k] == SLOW || kind[k] == LAME;
        }

        int tells(int k, int what) {
            switch (what) {
                case 0: return kind[k];
                case 1: return cell[k];
                default: return gone[k];
            }
        }

        int drives() {
            return WAYS * size;
        }

        int lostOnes() {
            int n = 0;
            for (int k = 0; k < size; k++) {
                if (cell[k] == NONE) n++;
            }
            return n;
        }

        int shyOnes() {
            int n = 0;
            for (int k = 0; k < size; k++) {
                if (isShy(k)) n++;
            }
            return n;
        }

        int allOff(Ground g) {
            int sum = 0;
            for (int k = 0; k < size; k++) {
                for (int j = k + 1; j < size; j++) {
                    if (cell[k] != NONE && cell[j] != NONE) sum += g.off(cell[k], cell[j]);
                }
            }
            return sum;
        }

        boolean areSafe(Ground g) {
            for (int k = 0; k < size; k++) {
                if (cell[k] == NONE || g.what[cell[k]] != FOLD) return false;
            }
            return size > 0;
        }

        boolean areAt(int[] cells) {
            for (int k = 0; k < size; k++) {
                if (cell[k] != cells[k]) return false;
            }
            return true;
        }

        /** All that a ring asks for, each part in bits of its own. */
        long inOneNumber() {
            long all = step & 1;
            for (int k = 0; k < size; k++) all = joined(all, cell[k]);
            all = joined(joined(all, last), lastCell);
            return joined(joined(all, before), beforeCell);
        }

        private static long joined(long all, int v) {
            return 32 * all + (v == NONE ? 31 : v);
        }

        int aimOf(int k) {
            return kind[k] == CHASER && before != NONE ? beforeCell : lastCell;
        }

        private boolean can(Ground g, int k, int c, boolean gateTaken) {
            if (c == NONE || g.what[c] == WALL || (full >> c & 1) == 1) return false;
            return g.what[c] != GATE || kind[k] != LAME && !gateTaken;
        }

        private void move(Ground g, int k, int c) {
            full &= ~(1 << cell[k]);
            if (g.what[c] == WATER) {
                cell[k] = NONE;
            } else {
                cell[k] = c;
                full |= 1 << c;
            }
            gone[k]++;
        }

        private void becomesLast(int k, int c) {
            before = last;
            beforeCell = lastCell;
            last = k;
            lastCell = c;
        }

        /** The cell that it stirs to; NONE where it can't. */
        int stirBy(Ground g, int k, int way) {
            if (!has(k) || cell[k] == NONE) return NONE;
            int to = g.beside(cell[k], way);
            if (!can(g, k, to, false)) return NONE;
            move(g, k, to);
            becomesLast(k, to);
            return to;
        }

        /** Who went, as bits. */
        int takeStep(Ground g) {
            int went = 0;
            int latest = NONE;
            int latestCell = NONE;
            boolean gateTaken = false;
            for (int k = 0; k < size; k++) {
                if (k == last || cell[k] == NONE || (step & 1) == 1 && isSlow(k)) continue;
                int to = nextCell(g, k, gateTaken);
                if (to == NONE) continue;
                move(g, k, to);
                if (g.what[to] == GATE) gateTaken = true;
                went |= 1 << k;
                latest = k;
                latestCell = to;
            }
            step++;
            // Only now: all of a step go by the last as the step began.
            if (latest != NONE) becomesLast(latest, latestCell);
            return went;
        }

        private int nextCell(Ground g, int k, boolean gateTaken) {
            int aim = aimOf(k);
            if (aim == NONE) return NONE;
            int from = cell[k];
            int across = g.column[aim] - g.column[from];
            int down = g.line[aim] - g.line[from];
            int off = Math.abs(across) + Math.abs(down);
            boolean away = isShy(k);
            if (away ? kind[k] == TIMID && off >= 3 : off <= 1) return NONE;
            boolean sideways = Math.abs(across) >= Math.abs(down);
            for (int turn = 0; turn < 2; turn++) {
                int apart = sideways ? across : down;
                if (apart != 0) {
                    boolean onward = (apart > 0) != away;
                    int way = sideways ? (onward ? 1 : 3) : (onward ? 2 : 0);
                    int to = g.beside(from, way);
                    if (can(g, k, to, gateTaken)) return to;
                }
                sideways = !sideways;
            }
            return NONE;
        }

        /** Whether they stand behind it. */
        boolean runOut(Ground g) {
            int still = 0;
            for (int n = 0; n < RUN_STEPS && still < 2; n++) {
                still = takeStep(g) == 0 ? still + 1 : 0;
            }
            return still == 2;
        }

        /** Whether the drive can be; if not, nothing is done. */
        boolean driveBy(Ground g, int drive) {
            if (stirBy(g, drive / WAYS, drive % WAYS) == NONE) return false;
            runOut(g);
            return true;
        }

        /** How many flee from a stone. */
        int fleeFrom(Ground g, int c) {
            int went = 0;
            int latest = NONE;
            int latestCell = NONE;
            for (int k = 0; k < size; k++) {
                if (cell[k] == NONE || g.off(cell[k], c) != 1) continue;
                int to = g.beside(cell[k], wayTo(g, c, cell[k]));
                if (!can(g, k, to, false)) continue;
                move(g, k, to);
                went++;
                latest = k;
                latestCell = to;
            }
            if (latest != NONE) becomesLast(latest, latestCell);
            return went;
        }

        private static int wayTo(Ground g, int from, int to) {
            for (int way = 0; way < WAYS - 1; way++) {
                if (g.beside(from, way) == to) return way;
            }
            return WAYS - 1;
        }
    }

    /** Reads a text as a ground; where it fails, the place it stands at is the fault. */
    private static final class Reader {
        private static final int[] SIGNS = {'.', '#', '~', 'o', '='};
        private static final int[] LETTERS = {'b', 's', 'l', 'c', 'm', 't'};
        private static final int END = 1000;

        final Ground ground = new Ground();
        final Flock flock = new Flock();
        private int[] text = new int[0];
        private int size;
        private int place;

        int readAll(int[] signs, int n) {
            text = signs;
            size = n;
            place = 0;
            return readSize() && readCells() && readBeasts() ? NONE : place;
        }

        private boolean readSize() {
            skipBlanks();
            if (sign() != 'g') return false;
            place++;
            int w = figure(2, 6);
            if (w == NONE) return false;
            int h = figure(1, 5);
            if (h == NONE) return false;
            ground.spread(w, h);
            return true;
        }

        private boolean readCells() {
            for (int c = 0; c < ground.size; c++) {
                skipBlanks();
                int what = placeOf(SIGNS, sign());
                if (what == NONE) return false;
                ground.what[c] = what;
                place++;
            }
            return true;
        }

        private boolean readBeasts() {
            flock.clear();
            for (int k = 0; k < MOST_BEASTS; k++) {
                skipBlanks();
                if (place == size) return true;
                if (!readBeast()) return false;
            }
            skipBlanks();
            return place == size;
        }

        private boolean readBeast() {
            int kind = placeOf(LETTERS, sign());
            if (kind == NONE) return false;
            place++;
            int x = figure(0, ground.width - 1);
            if (x == NONE) return false;
            int y = figure(0, ground.height - 1);
            if (y == NONE) return false;
            int c = y * ground.width + x;
            if (!ground.isOpen(c) || flock.isIn(c)) {
                place--;
                return false;
            }
            flock.add(kind, c);
            return true;
        }

        private void skipBlanks() {
            while (place < size && text[place] == ' ') place++;
        }

        private int sign() {
            return place < size ? text[place] : END;
        }

        private int figure(int least, int most) {
            int v = sign() - '0';
            if (v < least || v > most) return NONE;
            place++;
            return v;
        }
    }

    /** Goes through rows of drives in their order, and notes which of them lead to what is sought. */
    private static final class Search {
        private static final int DEEPEST = 3;

        private final Flock[] behind = {new Flock(), new Flock(), new Flock(), new Flock()};
        private final int[] sought = new int[MOST_BEASTS];
        private boolean seeksSafe;
        private int length;
        int rows;
        int hits;
        int first;
        int beasts;
        int ways;

        void seekSafe() {
            seeksSafe = true;
        }

        void seekDawn(int[] cells) {
            seeksSafe = false;
            System.arraycopy(cells, 0, sought, 0, MOST_BEASTS);
        }

        /** The fewest drives with a hit, at most so many; NONE if there is none. */
        int fewFrom(Ground g, Flock from, int most) {
            for (int n = 0; n <= most; n++) {
                begin(from, n);
                follow(this, g, 0, 0);
                if (hits > 0) return n;
            }
            return NONE;
        }

        void allFrom(Ground g, Flock from, int n) {
            begin(from, n);
            follow(this, g, 0, 0);
        }

        private void begin(Flock from, int n) {
            behind[0].take(from);
            length = n;
            rows = 0;
            hits = 0;
            first = 0;
            beasts = 0;
            ways = 0;
        }

        private static void follow(Search s, Ground g, int done, int row) {
            if (done >= s.length || done >= DEEPEST) {
                s.note(g, done, row);
                return;
            }
            Flock next = s.behind[done + 1];
            for (int drive = 0; drive < s.behind[done].drives(); drive++) {
                next.take(s.behind[done]);
                if (next.driveBy(g, drive)) follow(s, g, done + 1, row << 4 | drive);
            }
        }

        private void note(Ground g, int done, int row) {
            rows++;
            boolean hit = seeksSafe ? behind[done].areSafe(g) : behind[done].areAt(sought);
            if (!hit) return;
            if (hits == 0) first = row;
            hits++;
            if (done == 0) return;
            int begins = row >> 4 * (done - 1);
            beasts |= 1 << begins / WAYS;
            ways |= 1 << begins % WAYS;
        }
    }

    /** A shepherd who goes by turns with a wolf. */
    private static final class Watch {
        private final Flock[] behind = {new Flock(), new Flock(), new Flock()};
        private int turns;
        private int lostNow;
        int first;

        boolean keepsAll(Ground g, Flock from, int wolf, int n) {
            behind[0].take(from);
            turns = Math.min(n, behind.length - 1);
            lostNow = from.lostOnes();
            return shepherdKeeps(g, wolf, 0);
        }

        private boolean shepherdKeeps(Ground g, int wolf, int done) {
            if (done >= turns) return true;
            Flock next = behind[done + 1];
            for (int drive = -1; drive < behind[done].drives(); drive++) {
                next.take(behind[done]);
                if (drive >= 0 && !next.driveBy(g, drive)) continue;
                if (next.lostOnes() > lostNow || !wolfFails(g, wolf, done + 1)) continue;
                if (done == 0) first = drive < 0 ? NONE : drive;
                return true;
            }
            return false;
        }

        private boolean wolfFails(Ground g, int wolf, int done) {
            for (int way = -1; way < WAYS; way++) {
                int to = way < 0 ? wolf : g.beside(wolf, way);
                if (to == NONE || !g.isOpen(to)) continue;
                if (behind[done].isIn(to) || !shepherdKeeps(g, to, done)) return false;
            }
            return true;
        }
    }
}
