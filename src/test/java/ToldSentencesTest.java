import java.io.IOException;
import java.util.Arrays;
import java.util.function.IntSupplier;

/** The sentences of promises 38 to 44 that name a boundary case. */
public final class ToldSentencesTest {
    public static void main(String[] args) throws IOException {
        Sentences s = new Sentences();
        tell(s);
        s.run("ToldSentencesTest");
    }

    static void tell(Sentences s) {
        promise38(s);
        promises39And40(s);
        promise41(s);
        promise41Things(s);
        promises42And43(s);
        promise44(s);
        promise44Parts(s);
    }

    private static void stays(Due due, LastStirred x, String call, int answer, int want) {
        due.is(call, answer, want);
        due.is(call + ", asked() stays", x.asked(), 77);
    }

    /** Told behind a call, when 77 had been told ahead of it. */
    private static void tells(Due due, LastStirred x, String call, IntSupplier answer, int want) {
        x.at(0, 0);
        due.is("asked() ahead of " + call, x.asked(), 77);
        answer.getAsInt();
        due.is("asked() behind " + call, x.asked(), want);
    }

    private static void promise38(Sentences s) {
        s.of("Promise 38", "that was not refused", due -> {
            LastStirred x = Due.flock("g21..b00b10");
            Due.row(x, 0, 77);
            x.row(1, 0);
            x.at(0, 0);
            stays(due, x, "lay", x.lay(0, 1, 5), Due.FINDING);
            stays(due, x, "at", x.at(0, -1), Due.FINDING);
            stays(due, x, "mean", x.mean(1), Due.FINDING);
            stays(due, x, "cell", x.cell(2), Due.BAD);
            stays(due, x, "beast", x.beast(0, 3), Due.BAD);
            stays(due, x, "part", x.part(0, 0), Due.BAD);
            stays(due, x, "worth", x.worth(0, 1), Due.STATE);
            stays(due, x, "drive", x.drive(0), Due.FINDING);
            stays(due, x, "wolf", x.wolf(0, 1), Due.STATE);
            stays(due, x, "dawn", x.dawn(0), Due.FINDING);
            stays(due, x, "who", x.who(0), Due.FINDING);
            Due.goTo(x, 10000);
            stays(due, x, "run", x.run(), Due.SPENT);
            x = new LastStirred();
            Due.row(x, 0, 77);
            x.at(0, 0);
            stays(due, x, "run, no GROUND", x.run(), Due.STATE);
            stays(due, x, "ring, no GROUND", x.ring(), Due.STATE);
            stays(due, x, "fewest, no GROUND", x.fewest(), Due.STATE);
        });
        s.of("Promise 38", "(nor NONE) told", due -> {
            LastStirred x = Due.flock("g65#.#======.#.=#==###=.===.==..=l40l51l04l01");
            x.stir(0, 1);
            x.go(1);
            x.stir(3, 2);
            Due.row(x, 0, 77);
            x.at(0, 0);
            stays(due, x, "ring", x.ring(), Due.NONE);
            stays(due, x, "fewest", x.fewest(), Due.NONE);
            Due.write(x, 0, "g21..b00b10");
            x.ground(0);
            stays(due, x, "gather", x.gather(), Due.NONE);
            stays(due, x, "part", x.part(0, 1), Due.NONE);
            Due.row(x, 1, 1, 0);
            x.at(0, 0);
            stays(due, x, "dawn", x.dawn(1), Due.NONE);
            stays(due, x, "who", x.who(1), Due.NONE);
            x.where(1);
            stays(due, x, "who, 0 DRIVES", x.who(1), Due.NONE);
        });
        s.of("Promise 38", "What the latest lay(), at(), mean(), cell(), beast(), last(), run(), ring(), fewest()", due -> {
            LastStirred x = Due.flock("g61...ooob00b10");
            Due.row(x, 0, 77);
            x.at(0, 0);
            x.row(1, 3);
            x.copy(0, 0, 1, 0, 1);
            x.where(2);
            stays(due, x, "tear", x.tear(2), 1);
            x.text(1, 1);
            x.put(1, 0, 5);
            stays(due, x, "fault", x.fault(0), Due.NONE);
            stays(due, x, "build", x.build(2, 0), 0);
            stays(due, x, "stir", x.stir(1, 1), 2);
            stays(due, x, "go", x.go(1), 1);
            stays(due, x, "apart", x.apart(), 1);
            stays(due, x, "keep", x.keep(0), 1);
            stays(due, x, "on", x.on(0), 1);
            stays(due, x, "ways", x.ways(1), 0);
            stays(due, x, "stone", x.stone(5), 0);
            stays(due, x, "reach", x.reach(0, 0), 63);
            stays(due, x, "breed", x.breed(0), 2);
            stays(due, x, "count", x.count(0), 6);
            stays(due, x, "finding", x.finding(), 0);
            stays(due, x, "findings", x.findings(1), 0);
            x.digest();
            stays(due, x, "ground", x.ground(0), 2);
            x.asked();
            due.is("asked() twice", x.asked(), 77);
        });
        s.of("Promise 38", "gather(), part(), worth(), drive(), never(), wolf(), dawn(), who()", due -> {
            LastStirred x = Due.flock("g61...ooob00b10");
            Due.row(x, 0, 77);
            Due.row(x, 1, 5, 9);
            Due.row(x, 2, 3, 4);
            Due.row(x, 4, 5, 5, 5);
            tells(due, x, "lay", () -> x.lay(1, 0, 6), 5);
            tells(due, x, "at", () -> x.at(1, 0), 6);
            tells(due, x, "mean", () -> x.mean(1), 7);
            tells(due, x, "cell", () -> x.cell(1), 1);
            tells(due, x, "beast", () -> x.beast(0, 0), 0);
            tells(due, x, "last, NONE", x::last, Due.NONE);
            tells(due, x, "run", x::run, 1);
            tells(due, x, "ring", x::ring, 2);
            tells(due, x, "fewest", x::fewest, 0x555);
            tells(due, x, "gather", x::gather, 1);
            tells(due, x, "part", () -> x.part(0, 1), 1);
            tells(due, x, "worth", () -> x.worth(1, 1), 1);
            tells(due, x, "never, none", x::never, Due.NONE);
            tells(due, x, "wolf", () -> x.wolf(5, 1), Due.NONE);
            tells(due, x, "drive", () -> x.drive(4), 0);
            tells(due, x, "dawn", () -> x.dawn(2), 1);
            x.stir(0, 3);
            tells(due, x, "who", () -> x.who(2), 1 << 1);
            tells(due, x, "last", x::last, 2);
        });
        s.of("Promise 38", "0 before", due -> {
            LastStirred x = new LastStirred();
            due.is("asked()", x.asked(), 0);
            x.row(0, 3);
            Due.write(x, 0, "g21..b00");
            x.ground(0);
            x.stir(0, 1);
            x.go(4);
            due.is("asked(), none has told", x.asked(), 0);
        });
    }

    private static void promises39And40(Sentences s) {
        s.of("Promise 39", "The upper number of the fraction that was told last; 0 before", due -> {
            LastStirred x = Due.flock("g33.o.o.....b11");
            due.is("before", x.upper(), 0);
            x.ways(1);
            due.is("2 of 4", x.upper(), 1);
            x.build(5, 3);
            due.is("not told anew", x.upper(), 1);
            x.ways(3);
            due.is("refused", x.upper(), 1);
            x.ways(1);
            due.is("3 of 4", x.upper(), 3);
            x.ways(2);
            due.is("0 of 12", x.upper(), 0);
        });
        s.of("Promise 40", "Its lower number; 1 before", due -> {
            LastStirred x = Due.flock("g33.o.o.....b11");
            due.is("before", x.lower(), 1);
            x.ways(1);
            due.is("2 of 4", x.lower(), 2);
            x.build(5, 3);
            due.is("not told anew", x.lower(), 2);
            x.ways(3);
            due.is("refused", x.lower(), 2);
            x.ways(1);
            due.is("3 of 4", x.lower(), 4);
            x.ways(2);
            due.is("0 of 12", x.lower(), 1);
        });
    }

    private static void promise41(Sentences s) {
        s.of("Promise 41", "0 CELLS", due -> {
            LastStirred x = new LastStirred();
            due.is("none", x.count(0), 0);
            due.is("the least GROUND", Due.flock("g21..").count(0), 2);
            due.is("the greatest GROUND", Due.flock("g65" + ".".repeat(30)).count(0), 30);
            due.is("WALLS, too", Due.flock("g32##~~==").count(0), 6);
        });
        s.of("Promise 41", "1 BEASTS, 2 those LOST", due -> {
            LastStirred x = Due.flock("g51~...~b10b30");
            due.is("BEASTS", x.count(1), 2);
            due.is("LOST, none", x.count(2), 0);
            x.stir(0, 3);
            due.is("BEASTS, LOST ones, too", x.count(1), 2);
            due.is("LOST, one", x.count(2), 1);
            x.stir(1, 1);
            due.is("LOST, all", x.count(2), 2);
            due.is("no BEASTS", Due.flock("g21..").count(1), 0);
            due.is("four", Due.flock("g41....b00b10b20b30").count(1), 4);
        });
        s.of("Promise 41", "3 the STEP", due -> {
            LastStirred x = Due.flock("g21..b00");
            due.is("at first", x.count(3), 0);
            x.stir(0, 1);
            due.is("a STIRRING is none", x.count(3), 0);
            x.go(1);
            due.is("one", x.count(3), 1);
            Due.goTo(x, 10000);
            due.is("the last one", x.count(3), 10000);
        });
        s.of("Promise 41", "4 SHY ones (TIMID, too)", due -> {
            due.is("none", Due.flock("g41....b00l10c20m30").count(4), 0);
            due.is("SHY", Due.flock("g41....b00s10").count(4), 1);
            due.is("TIMID", Due.flock("g41....t00l10").count(4), 1);
            LastStirred x = Due.flock("g41...~s00t10s20");
            due.is("all", x.count(4), 3);
            x.stir(2, 1);
            due.is("a LOST one, too", x.count(4), 3);
        });
    }

    private static void promise41Things(Sentences s) {
        s.of("Promise 41", "5 kept FLOCKS", due -> {
            LastStirred x = Due.flock("g21..");
            int[] kept = {0, 1, 1, 2, 3};
            int[] places = {2, 2, 0, 1};
            for (int i = 0; i <= 4; i++) {
                due.is("behind " + i, x.count(5), kept[i]);
                if (i < 4) x.keep(places[i]);
            }
            x.on(2);
            due.is("on(2) leaves it there", x.count(5), 3);
            x.ground(0);
            due.is("a GROUND anew", x.count(5), 0);
        });
        s.of("Promise 41", "6 ROWS, 7 TEXTS that are there", due -> {
            LastStirred x = new LastStirred();
            for (int r = 0; r < 6; r++) {
                x.row(r, 0);
                due.is("ROWS, of none, too", x.count(6), r + 1);
            }
            for (int t = 0; t < 4; t++) {
                x.text(t, 0);
                due.is("TEXTS, of none, too", x.count(7), t + 1);
            }
            x.row(0, 60);
            x.text(0, 80);
            due.is("ROWS, there by now", x.count(6), 6);
            due.is("TEXTS, there by now", x.count(7), 4);
            x.tear(5);
            due.is("one is torn", x.count(6), 5);
            x.where(5);
            due.is("one came by where(5)", x.count(6), 6);
        });
        s.of("Promise 41", "BAD", due -> {
            LastStirred x = Due.flock("g21..b00");
            for (int w : new int[] {-1, 8, Due.LEAST, Due.MOST}) due.is("count(" + w + ")", x.count(w), Due.BAD);
        });
    }

    private static void promises42And43(Sentences s) {
        s.of("Promise 42", "The latest FINDING (0 before any)", due -> {
            LastStirred x = new LastStirred();
            due.is("before any", x.finding(), 0);
            due.is("BAD is none", x.row(6, 1), Due.BAD);
            due.is("STATE is none", x.run(), Due.STATE);
            due.is("before any, still", x.finding(), 0);
            x.at(0, 0);
            due.is("NOTHING", x.finding(), 1);
            x.row(0, -1);
            due.is("SIZE", x.finding(), 5);
            x.row(0, 0);
            due.is("SIZE, though a call was answered", x.finding(), 5);
            x.mean(0);
            due.is("NOUGHT", x.finding(), 4);
            x.at(0, 0);
            due.is("BEYOND", x.finding(), 2);
        });
        s.of("Promise 43", "How often a FINDING (1 .. 5) was answered", due -> {
            LastStirred x = Due.flock("g21..b00");
            x.row(0, 0);
            for (int f = 1; f <= 5; f++) {
                due.is("findings(" + f + "), none", x.findings(f), 0);
                for (int n = 1; n <= f + 1; n++) {
                    due.finds(x, "FINDING " + f, find(x, f), f);
                    due.is("findings(" + f + ")", x.findings(f), n);
                }
            }
            for (int f = 1; f <= 5; f++) due.is("findings(" + f + "), at last", x.findings(f), f + 1);
        });
        s.of("Promise 43", "BAD", due -> {
            LastStirred x = new LastStirred();
            for (int f : new int[] {0, 6, -1, Due.LEAST, Due.MOST}) {
                due.is("findings(" + f + ")", x.findings(f), Due.BAD);
            }
        });
    }

    private static int find(LastStirred x, int f) {
        switch (f) {
            case 1: return x.at(1, 0);
            case 2: return x.at(0, 0);
            case 3: return x.mark(0, 1);
            case 4: return x.mean(0);
            default: return x.row(1, -1);
        }
    }

    /** The digest of numbers, the first ones first. */
    private static long sum(int[]... parts) {
        long h = 17;
        for (int[] part : parts) for (int v : part) h = 31 * h + v;
        return h;
    }

    private static int[] all(int... numbers) {
        return numbers;
    }

    private static int[] times(int n, int v) {
        int[] numbers = new int[n];
        Arrays.fill(numbers, v);
        return numbers;
    }

    private static int[] bytes(String text) {
        return text.chars().toArray();
    }

    private static final int[] NO_LAST = times(4, -9), NO_KEPT = times(3, -1), NO_ROWS = times(6, -1), NO_TEXTS = times(4, -1);

    private static void promise44(Sentences s) {
        s.of("Promise 44", "h = 17; then h = 31 h + v for each v", due -> {
            LastStirred x = new LastStirred();
            due.is("a new one", x.digest(), sum(times(8, 0), NO_LAST, NO_KEPT, NO_ROWS, NO_TEXTS));
            x.row(0, 60);
            for (int i = 0; i < 60; i++) x.lay(0, i, i % 2 == 0 ? Due.MOST : Due.LEAST);
            int[] places = new int[60];
            for (int i = 0; i < 60; i++) places[i] = i % 2 == 0 ? Due.MOST : Due.LEAST;
            due.is("above the greatest long", x.digest(), sum(all(0, 0, 0, 0, 0, 0, 1, 0), NO_LAST, NO_KEPT, all(60), places,
                    times(5, -1), NO_TEXTS));
        });
        s.of("Promise 44", "what it tells, not the 1 that it answers; asked() stays", due -> {
            LastStirred x = Due.flock("g21.=t10");
            x.cell(0);
            int before = x.asked();
            due.is("KIND 5, CELL 1, 0 CELLS", x.digest(), sum(all(2, 1, 0, 0, 1, 0, 0, 1), all(0, 4), all(5, 1, 0),
                    NO_LAST, NO_KEPT, NO_ROWS, all(8), bytes("g21.=t10"), times(3, -1)));
            due.is("asked()", x.asked(), before);
            x.at(0, 0);
            due.is("asked()", x.asked(), before);
        });
        s.of("Promise 44", "count() 0 to 7", due -> {
            LastStirred x = new LastStirred();
            x.text(0, 0);
            due.is("a TEXT of none", x.digest(), sum(times(7, 0), all(1), NO_LAST, NO_KEPT, NO_ROWS, all(0), times(3, -1)));
            x.row(0, 0);
            x.row(1, 0);
            due.is("two ROWS of none", x.digest(), sum(times(6, 0), all(2, 1), NO_LAST, NO_KEPT, times(2, 0), times(4, -1),
                    all(0), times(3, -1)));
            x = Due.flock("g31~..s10t20");
            x.stir(0, 3);
            x.go(1);
            x.keep(0);
            due.is("each of them", x.digest(), sum(all(3, 2, 1, 1, 2, 1, 0, 1), all(2, 0, 0), all(1, -9, 1), all(5, 2, 0),
                    all(0, 0, -9, -9), all(1, -1, -1), NO_ROWS, all(12), bytes("g31~..s10t20"), times(3, -1)));
        });
        s.of("Promise 44", "of each CELL what it is; of each BEAST beast() 0 to 2", due -> {
            String text = "g65" + ".#~o=".repeat(6);
            int[] signs = new int[30];
            for (int c = 0; c < 30; c++) signs[c] = c % 5;
            due.is("30 CELLS, no BEASTS", Due.flock(text).digest(), sum(all(30, 0, 0, 0, 0, 0, 0, 1), signs, NO_LAST, NO_KEPT,
                    NO_ROWS, all(33), bytes(text), times(3, -1)));
            String four = "g41....b00l10c20m30";
            due.is("four BEASTS", Due.flock(four).digest(), sum(all(4, 4, 0, 0, 0, 0, 0, 1), times(4, 0), all(0, 0, 0),
                    all(2, 1, 0), all(3, 2, 0), all(4, 3, 0), NO_LAST, NO_KEPT, NO_ROWS, all(19), bytes(four), times(3, -1)));
        });
    }

    private static void promise44Parts(Sentences s) {
        s.of("Promise 44", "LAST, its CELL, LAST BUT ONE, its CELL (NONE each)", due -> {
            LastStirred x = Due.flock("g31..~b00b10");
            int[] text = bytes("g31..~b00b10");
            int[] counts = {3, 2, 0, 0, 0, 0, 0, 1};
            int[] cells = {0, 0, 2};
            int[] rest = together(NO_KEPT, NO_ROWS, all(12), text, times(3, -1));
            due.is("none", x.digest(), sum(counts, cells, all(0, 0, 0, 0, 1, 0), NO_LAST, rest));
            x.stir(1, 1);
            counts[2] = 1;
            due.is("a LAST, LOST", x.digest(), sum(counts, cells, all(0, 0, 0, 0, -9, 1), all(1, 2, -9, -9), rest));
            x.stir(0, 1);
            due.is("a LAST BUT ONE", x.digest(), sum(counts, cells, all(0, 1, 1, 0, -9, 1), all(0, 1, 1, 2), rest));
            x.stir(0, 3);
            due.is("the same twice", x.digest(), sum(counts, cells, all(0, 0, 2, 0, -9, 1), all(0, 0, 0, 1), rest));
        });
        s.of("Promise 44", "of each kept FLOCK its STEP (-1: missing)", due -> {
            LastStirred x = Due.flock("g21..");
            int[] text = bytes("g21..");
            x.keep(1);
            due.is("kept in 1, at STEP 0", x.digest(), sum(all(2, 0, 0, 0, 0, 1, 0, 1), all(0, 0), NO_LAST, all(-1, 0, -1),
                    NO_ROWS, all(5), text, times(3, -1)));
            x.go(7);
            x.keep(2);
            x.go(1);
            x.keep(0);
            x.on(1);
            due.is("kept in each", x.digest(), sum(all(2, 0, 0, 0, 0, 3, 0, 1), all(0, 0), NO_LAST, all(8, 0, 7),
                    NO_ROWS, all(5), text, times(3, -1)));
            x.ground(0);
            due.is("gone", x.digest(), sum(all(2, 0, 0, 0, 0, 0, 0, 1), all(0, 0), NO_LAST, NO_KEPT, NO_ROWS, all(5), text,
                    times(3, -1)));
        });
        s.of("Promise 44", "of each ROW its size (-1: missing) and places, of each TEXT likewise", due -> {
            LastStirred x = new LastStirred();
            x.row(0, 0);
            Due.row(x, 5, -1, 5);
            Due.row(x, 2, 9);
            x.tear(2);
            x.text(0, 0);
            x.text(3, 3);
            x.put(3, 0, 200);
            x.put(3, 1, 0);
            due.is("ROWS and TEXTS", x.digest(), sum(times(6, 0), all(2, 2), NO_LAST, NO_KEPT, all(0, -1, -1, -1, -1, 2, -1, 5),
                    all(0, -1, -1, 3, -56, 0, 32)));
            x.row(5, 1);
            x.text(3, 1);
            due.is("smaller ones", x.digest(), sum(times(6, 0), all(2, 2), NO_LAST, NO_KEPT, all(0, -1, -1, -1, -1, 1, 0),
                    all(0, -1, -1, 1, 32)));
        });
    }

    private static int[] together(int[]... parts) {
        return Arrays.stream(parts).flatMapToInt(Arrays::stream).toArray();
    }
}
