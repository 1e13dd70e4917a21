import java.io.IOException;

/** The sentences of promises 25 to 31 that name a boundary case. */
public final class DrivesSentencesTest {
    public static void main(String[] args) throws IOException {
        Sentences s = new Sentences();
        tell(s);
        s.run("DrivesSentencesTest");
    }

    static void tell(Sentences s) {
        s.of("Terms", "drives (from as it is; it stays)", due -> {
            LastStirred x = Due.flock("g41.o..b00s30");
            x.stir(1, 3);
            long before = x.digest();
            x.fewest();
            due.is("fewest()", x.digest(), before);
            x.ways(1);
            x.ways(2);
            due.is("ways()", x.digest(), before);
            x.gather();
            due.is("gather()", x.digest(), before);
            x.part(0, 1);
            due.is("part(0, 1)", x.digest(), before);
            x.worth(0, 1);
            due.is("worth(0, 1)", x.digest(), before);
            due.last(x, "all of them", 1, 2);
        });
        promise25(s);
        promise26(s);
        promise27(s);
        promise28(s);
        promise29(s);
        promise30(s);
        promise30Last(s);
        promise31(s);
        promise31Refused(s);
    }

    private static void promise25(Sentences s) {
        s.of("Promise 25", "The fewest DRIVES (0 .. 3) behind which they are SAFE", due -> {
            String[] grounds = {"g51o....b00", "g51.o...b00", "g51..o..b00", "g51...o.b00", "g51....ob00"};
            for (int n = 0; n < 5; n++) due.is(grounds[n], Due.flock(grounds[n]).fewest(), n < 4 ? n : Due.NONE);
            due.is("by one, though by more, too", Due.flock("g31.oob00").fewest(), 1);
            due.is("no BEASTS", Due.flock("g21oo").fewest(), Due.NONE);
            due.is("behind STEP 10000", Due.flockAt("g31..ob00", 10000).fewest(), 2);
        });
        s.of("Promise 25", "the first row of them by asked()", due -> {
            due.fewest("right or left", "g31o.ob10", 1, 1);
            due.fewest("up or down", "g23o...o.b01", 1, 0);
            due.fewest("right and down, or down and right", "g22...ob00", 2, 0x12);
            due.fewest("either BEAST", "g41.oo.b00b30", 1, 1);
        });
        s.of("Promise 25", "each 4 times the BEAST and the way, as figures to the base of 16, the first DRIVE the highest", due -> {
            due.fewest("BEAST 0, up", "g22o...b01", 1, 0);
            due.fewest("BEAST 3, left", "g51oooo.b00b10b20b40", 1, 15);
            due.fewest("BEAST 1, right, three times", "g61...ooob00b10", 3, 0x555);
            due.fewest("right, then down", "g22..#ob00", 2, 0x12);
            due.fewest("up, then up, then right", "g23.o.#.#b02", 3, 0x001);
        });
        s.of("Promise 25", "(0 DRIVES: 0)", due -> {
            LastStirred x = Due.flock("g21oob10");
            x.beast(0, 1);
            due.tells(x, "safe by now", x.fewest(), 0, 0);
        });
        s.of("Promise 25", "NONE: with 3 not", due -> {
            LastStirred x = Due.flock("g51....ob00");
            x.cell(4);
            due.tells(x, "with 4", x.fewest(), Due.NONE, Due.NONE);
            x.stir(0, 1);
            due.tells(x, "with 3", x.fewest(), 3, 0x111);
            x = Due.flock("g31o~.b00b20");
            x.stir(1, 3);
            x.beast(0, 1);
            due.tells(x, "one is LOST", x.fewest(), Due.NONE, 0);
        });
        s.of("Promise 25", "STATE: no GROUND", due -> {
            LastStirred x = new LastStirred();
            due.tells(x, "fewest()", x.fewest(), Due.STATE, 0);
        });
    }

    private static void ways(Due due, LastStirred x, int n, int want, long upper, long lower) {
        due.is("ways(" + n + ")", x.ways(n), want);
        due.is("ways(" + n + "), upper()", x.upper(), upper);
        due.is("ways(" + n + "), lower()", x.lower(), lower);
    }

    private static void promise26(Sentences s) {
        s.of("Promise 26", "By how many rows of just n (1, 2) DRIVES they are SAFE", due -> {
            ways(due, Due.flock("g21.ob00"), 1, 1, 1, 1);
            ways(due, Due.flock("g21.ob00"), 2, 0, 0, 1);
            ways(due, Due.flock("g31..ob00"), 1, 0, 0, 1);
            ways(due, Due.flock("g31..ob00"), 2, 1, 1, 2);
            ways(due, Due.flock("g21o.b00"), 1, 0, 0, 1);
            ways(due, Due.flock("g21o.b00"), 2, 1, 1, 1);
        });
        s.of("Promise 26", "of all that can be, told by upper(), lower(): how many", due -> {
            ways(due, Due.flock("g33.o.......b11"), 1, 1, 1, 4);
            ways(due, Due.flock("g33.o.o.....b11"), 1, 2, 1, 2);
            ways(due, Due.flock("g33o........b11"), 2, 2, 1, 6);
            ways(due, Due.flock("g33.o.#.....b11"), 1, 1, 1, 3);
            ways(due, Due.flock("g33#o##.#.#.b11"), 1, 1, 1, 1);
            LastStirred x = Due.flock("g31~.ob10");
            ways(due, x, 2, 0, 0, 1);
            ways(due, x, 1, 1, 1, 2);
        });
        s.of("Promise 26", "BAD", due -> {
            LastStirred x = Due.flock("g21.ob00");
            for (int n : new int[] {0, 3, -1, Due.LEAST, Due.MOST}) due.is("ways(" + n + ")", x.ways(n), Due.BAD);
            due.is("lower() stays", x.lower(), 1);
        });
        s.of("Promise 26", "NOUGHT: none can be", due -> {
            LastStirred x = new LastStirred();
            due.finds(x, "no GROUND", x.ways(1), Due.NOUGHT);
            x = Due.flock("g21oo");
            due.finds(x, "no BEASTS", x.ways(2), Due.NOUGHT);
            x = Due.flock("g21oob00b10");
            due.finds(x, "no room, though they are SAFE", x.ways(1), Due.NOUGHT);
            x = Due.flock("g21.~b00");
            ways(due, x, 1, 0, 0, 1);
            due.finds(x, "one can be, but none behind it", x.ways(2), Due.NOUGHT);
            x.stir(0, 1);
            due.finds(x, "all are LOST", x.ways(1), Due.NOUGHT);
        });
    }

    private static void promise27(Sentences s) {
        s.of("Promise 27", "The DRIVE (4 times the BEAST and the way)", due -> {
            LastStirred x = Due.flock("g61...#..b00b10b20b50");
            due.tells(x, "BEAST 3, left", x.gather(), 15, 13);
            x = Due.flock("g23.#.#.#b01b02");
            due.tells(x, "BEAST 0, up", x.gather(), 0, 1);
        });
        s.of("Promise 27", "behind which none is LOST more than now", due -> {
            LastStirred x = Due.flock("g51~....b10b20b40");
            x.stir(0, 3);
            due.tells(x, "one is LOST by now", x.gather(), 5, 1);
            x = Due.flock("g61~.....b10b20b50");
            due.tells(x, "not the one by which one is LOST", x.gather(), 5, 4);
        });
        s.of("Promise 27", "and apart() is least (the first)", due -> {
            LastStirred x = Due.flock("g61......b00b50");
            due.tells(x, "alike: the first", x.gather(), 1, 1);
            x = Due.flock("g61......b50t00");
            due.tells(x, "not the first, but the least", x.gather(), 5, 3);
        });
        s.of("Promise 27", "that by asked()", due -> {
            LastStirred x = Due.flock("g21..b00");
            x.cell(1);
            due.tells(x, "one alone", x.gather(), 1, 0);
            x = Due.flock("g61......b00b10b20b50");
            due.tells(x, "four", x.gather(), 9, 10);
            x = Due.flock("g61......t00b50");
            due.tells(x, "3 by the first, 4 by the last that is tried", x.gather(), 1, 3);
        });
        s.of("Promise 27", "NONE: there is none", due -> {
            LastStirred x = new LastStirred();
            due.tells(x, "no GROUND", x.gather(), Due.NONE, 0);
            x = Due.flock("g21..");
            due.tells(x, "no BEASTS", x.gather(), Due.NONE, 0);
            x = Due.flock("g21..b00s10");
            x.beast(0, 2);
            due.tells(x, "none can be", x.gather(), Due.NONE, 0);
            x = Due.flock("g31~.~b10");
            x.cell(0);
            due.tells(x, "by each one is LOST", x.gather(), Due.NONE, Due.NONE);
        });
    }

    private static void promise28(Sentences s) {
        s.of("Promise 28", "two BEASTS (neither LOST then)", due -> {
            LastStirred x = Due.flock("g51.~...b00b20b40");
            due.tells(x, "one of them is LOST by each", x.part(0, 2), Due.NONE, 0);
            due.tells(x, "the other one", x.part(2, 0), Due.NONE, 0);
            due.tells(x, "a third one may be LOST", x.part(1, 2), 1, 1);
        });
        s.of("Promise 28", "are farthest OFF each other (the first)", due -> {
            LastStirred x = Due.flock("g61......b50t00");
            due.tells(x, "4 by the first, 3 by the second", x.part(0, 1), 3, 4);
            x = Due.flock("g61......b00b50");
            due.tells(x, "1 by each: the first", x.part(0, 1), 1, 1);
            x = Due.flock("g61......t00b50");
            due.tells(x, "3 by the first, 4 by the second", x.part(1, 0), 7, 4);
            x = Due.flock("g23.#.#.#b01b02");
            due.tells(x, "BEAST 0, up", x.part(0, 1), 0, 1);
        });
        s.of("Promise 28", "how far by asked()", due -> {
            LastStirred x = Due.flock("g65" + ".".repeat(30) + "t00t54");
            due.tells(x, "8 by each", x.part(0, 1), 1, 8);
            x = Due.flock("g41...#b00b20");
            due.tells(x, "1", x.part(1, 0), 1, 1);
            x = Due.flock("g61......b50t00");
            due.tells(x, "4 by the first, 3 by the last that is tried", x.part(0, 1), 3, 4);
        });
        s.of("Promise 28", "NONE: there is none", due -> {
            LastStirred x = Due.flock("g21..b00b10");
            x.beast(1, 1);
            due.tells(x, "none can be", x.part(0, 1), Due.NONE, 1);
            x = Due.flock("g31~..b10b20");
            x.stir(0, 3);
            due.tells(x, "one is LOST by now", x.part(0, 1), Due.NONE, 0);
        });
        s.of("Promise 28", "BAD", due -> {
            LastStirred x = Due.flock("g41....b00b20");
            for (int k : new int[] {-1, 2, Due.LEAST, Due.MOST}) {
                due.is("part(" + k + ", 0)", x.part(k, 0), Due.BAD);
                due.is("part(1, " + k + ")", x.part(1, k), Due.BAD);
            }
            due.is("no GROUND", new LastStirred().part(0, 1), Due.BAD);
        });
        s.of("Promise 28", "BAD: also alike", due -> {
            LastStirred x = Due.flock("g41....b00b20");
            due.is("part(0, 0)", x.part(0, 0), Due.BAD);
            due.is("part(1, 1)", x.part(1, 1), Due.BAD);
        });
    }

    private static void promise29(Sentences s) {
        s.of("Promise 29", "How many BEASTS go in the RUN of a DRIVE", due -> {
            due.is("none", Due.flock("g21..b00").worth(0, 1), 0);
            due.is("the stirred one, too", Due.flock("g61......b00s20").worth(1, 1), 2);
            due.is("four", Due.flock("g61......b10b00b20b40").worth(3, 1), 4);
            due.is("one", Due.flock("g41.oo.b00b30").worth(0, 1), 1);
            LastStirred x = Due.flock("g41....b00b30");
            x.stir(1, 3);
            x.run();
            due.is("what went ahead does not count", x.worth(0, 3), 1);
        });
        s.of("Promise 29", "how many CELLS together in it (the STIRRING aside) by asked()", due -> {
            LastStirred x = Due.flock("g21..b00");
            due.tells(x, "none", x.worth(0, 1), 0, 0);
            x = Due.flock("g41.oo.b00b30");
            due.tells(x, "one", x.worth(0, 1), 1, 1);
            x = Due.flock("g61......b00s20");
            due.tells(x, "three by one, two by the other", x.worth(1, 1), 2, 5);
            x.stir(1, 3);
            x.run();
            due.tells(x, "those ahead do not count", x.worth(1, 1), 2, 7);
            x = Due.flock("g51.~...b00b30");
            due.tells(x, "into WATER, too", x.worth(1, 1), 2, 2);
        });
        s.of("Promise 29", "(It stays.)", due -> {
            LastStirred x = Due.flock("g61......b00s20");
            long before = x.digest();
            due.is("worth(1, 1)", x.worth(1, 1), 2);
            due.is("it stays", x.digest(), before);
            due.last(x, "it stays", Due.NONE, Due.NONE);
        });
        s.of("Promise 29", "BAD", due -> {
            LastStirred x = Due.flock("g33.........b11");
            for (int k : new int[] {-1, 1, Due.LEAST, Due.MOST}) due.is("worth(" + k + ", 0)", x.worth(k, 0), Due.BAD);
            for (int w : new int[] {-1, 4, Due.LEAST, Due.MOST}) due.is("worth(0, " + w + ")", x.worth(0, w), Due.BAD);
            due.is("no GROUND", new LastStirred().worth(0, 0), Due.BAD);
        });
        s.of("Promise 29", "STATE: the DRIVE can't be", due -> {
            LastStirred x = Due.flock("g32.#....b00b01");
            x.beast(1, 0);
            due.tells(x, "off the GROUND", x.worth(0, 0), Due.STATE, 0);
            due.tells(x, "a WALL", x.worth(0, 1), Due.STATE, 0);
            due.tells(x, "another one is there", x.worth(0, 2), Due.STATE, 0);
            x = Due.flock("g21.~b00");
            due.tells(x, "into WATER it can", x.worth(0, 1), 0, 0);
            x.stir(0, 1);
            due.tells(x, "LOST", x.worth(0, 3), Due.STATE, 0);
            x = Due.flockAt("g31...b00b20", 10000);
            due.tells(x, "at STEP 10000 it can", x.worth(0, 1), 0, 0);
        });
    }

    private static void promise30(Sentences s) {
        s.of("Promise 30", "each BEAST that is 1 OFF goes", due -> {
            LastStirred x = Due.flock("g55" + ".".repeat(25) + "b21b32b23b12");
            due.is("four", x.stone(12), 4);
            due.cells(x, "four", 2, 14, 22, 10);
            x = Due.flock("g55" + ".".repeat(25) + "b22b33b24b31");
            due.is("0 OFF, 2 OFF three times", x.stone(12), 0);
            due.cells(x, "none", 12, 18, 22, 8);
            due.is("the second, not the first", Due.flock("g51.....b00b30").stone(2), 1);
            due.is("not the one at the end of the row above", Due.flock("g32......b20").stone(3), 0);
            due.is("nor at the first of the row below", Due.flock("g33.........b01").stone(2), 0);
        });
        s.of("Promise 30", "one behind the other, one CELL straight away from it", due -> {
            int[] from = {7, 13, 17, 11};
            int[] to = {2, 14, 22, 10};
            for (int way = 0; way < 4; way++) {
                LastStirred x = Due.flock("g55" + ".".repeat(25) + "s" + from[way] % 5 + from[way] / 5);
                due.is("a stone, way " + way, x.stone(12), 1);
                due.cells(x, "a stone, way " + way, to[way]);
            }
        });
        s.of("Promise 30", "if it CAN (each as in a STEP of its own)", due -> {
            due.is("the end of the GROUND", Due.flock("g31...b00").stone(1), 0);
            due.is("a WALL", Due.flock("g31#..b10").stone(2), 0);
            due.is("another one", Due.flock("g31...b10b00").stone(2), 0);
            due.is("LAME, a GATE", Due.flock("g31=..m10").stone(2), 0);
            due.is("two GATES", Due.flock("g51=...=b10b30").stone(2), 2);
            due.is("the first CAN't, the second CAN", Due.flock("g51#....b10b30").stone(2), 1);
            LastStirred x = Due.flockAt("g31...l10", 1);
            due.is("SLOW, odd STEP", x.stone(0), 1);
            x = Due.flock("g31~..b10");
            due.is("WATER", x.stone(2), 1);
            due.cells(x, "WATER", Due.NONE);
            due.is("a LOST one", x.stone(1), 0);
        });
        s.of("Promise 30", "how many went", due -> {
            due.is("no BEASTS", Due.flock("g21..").stone(0), 0);
            due.is("one of two", Due.flock("g51.....b10b30b40").stone(2), 1);
            due.is("two", Due.flock("g51.....b10b30").stone(2), 2);
        });
        s.of("Promise 30", "(This is done; no STEP goes by.)", due -> {
            LastStirred x = Due.flockAt("g31...b10", 10000);
            due.is("at STEP 10000", x.stone(0), 1);
            due.cells(x, "it is done", 2);
            due.tells(x, "it went", x.beast(0, 2), 1, 1);
            due.is("no STEP", x.count(3), 10000);
        });
        s.of("Promise 30", "BAD", due -> {
            LastStirred x = Due.flock("g31...b10");
            for (int c : new int[] {-1, 3, -9, Due.LEAST, Due.MOST}) due.is("stone(" + c + ")", x.stone(c), Due.BAD);
            due.is("no GROUND", new LastStirred().stone(0), Due.BAD);
        });
        s.of("Promise 30", "BAD: also a WALL", due -> {
            LastStirred x = Due.flock("g31#..b10");
            due.is("a WALL", x.stone(0), Due.BAD);
            due.cells(x, "a WALL", 1);
            due.is("WATER", Due.flock("g31~..b10").stone(0), 1);
            due.is("a GATE", Due.flock("g31=..b10").stone(0), 1);
            due.is("the FOLD", Due.flock("g31o..b10").stone(0), 1);
        });
    }

    private static void promise30Last(Sentences s) {
        s.of("Promise 30", "the last that went becomes the LAST", due -> {
            LastStirred x = Due.flock("g51.....b30b10");
            x.stone(2);
            due.last(x, "two went", 1, 0);
            x = Due.flock("g51..#..b10b40");
            x.stone(0);
            due.last(x, "none went: none yet", Due.NONE, Due.NONE);
            x.stir(1, 3);
            x.stone(0);
            due.last(x, "none went: it stays", 1, 3);
            x = Due.flock("g31~..b10");
            x.stone(2);
            due.last(x, "LOST by it", 0, 0);
        });
        s.of("Promise 30", "(the one ahead the LAST BUT ONE, with the CELL that it had as it stirred)", due -> {
            LastStirred x = Due.flock("g61......b00b30c50");
            x.stir(0, 1);
            due.is("the LAST and another one go", x.stone(2), 2);
            due.last(x, "another one", 1, 4);
            due.is("the LAST ahead, with its CELL then", x.mark(2, 3), 1);
            x = Due.flock("g61......b00c50");
            x.stir(0, 1);
            due.is("the LAST goes", x.stone(0), 1);
            due.last(x, "the LAST goes", 0, 2);
            due.is("it was the LAST ahead itself", x.mark(1, 3), 1);
            x = Due.flock("g61......c10b30");
            due.is("no LAST ahead", x.stone(2), 2);
            due.is("no LAST BUT ONE: the CHASER after the LAST", x.mark(0, 3), 4);
            x.stir(0, 1);
            due.is("none goes", x.stone(1), 0);
            due.is("the LAST BUT ONE stays", x.mark(0, 3), 4);
        });
    }

    private static void promise31(Sentences s) {
        s.of("Promise 31", "are done, one behind the other, until one can't be: how many were", due -> {
            LastStirred x = Due.flock("g61...ooob00b10");
            x.row(0, 0);
            due.is("none", x.drive(0), 0);
            Due.row(x, 0, 5, 5, 5);
            due.is("all", x.drive(0), 3);
            due.cells(x, "all", 3, 4);
            Due.row(x, 0, 3, 0, 3, 3);
            due.is("the second can't be", x.drive(0), 1);
            due.cells(x, "one", 2, 3);
            Due.row(x, 0, 0, 7);
            long before = x.digest();
            due.is("the first can't be", x.drive(0), 0);
            due.is("it stays", x.digest(), before);
            x = Due.flock("g31...b00");
            x.row(5, 60);
            for (int i = 0; i < 60; i++) x.lay(5, i, i % 2 == 0 ? 1 : 3);
            due.is("60", x.drive(5), 60);
            due.is("each with its RUN", x.count(3), 120);
            x = Due.flock("g31..~b00");
            Due.row(x, 1, 1, 1, 3);
            due.is("LOST by the second, so the third can't be", x.drive(1), 2);
        });
        s.of("Promise 31", "how many are LOST then by asked()", due -> {
            LastStirred x = Due.flock("g21..b10");
            Due.row(x, 0, 3);
            due.tells(x, "none", x.drive(0), 1, 0);
            x = Due.flock("g31~..b10b20");
            Due.row(x, 0, 3);
            due.tells(x, "one", x.drive(0), 1, 1);
            x.row(0, 0);
            x.cell(0);
            due.tells(x, "one ahead", x.drive(0), 0, 1);
            x = Due.flock("g41~..~b10b20");
            Due.row(x, 0, 3, 7);
            due.tells(x, "both", x.drive(0), 2, 2);
        });
    }

    private static void promise31Refused(Sentences s) {
        s.of("Promise 31", "BAD", due -> {
            LastStirred x = Due.flock("g21..b00");
            for (int r : new int[] {-1, 6, Due.LEAST, Due.MOST}) due.is("drive(" + r + ")", x.drive(r), Due.BAD);
        });
        s.of("Promise 31", "STATE: no GROUND", due -> {
            LastStirred x = new LastStirred();
            x.row(0, 0);
            due.tells(x, "a ROW of none", x.drive(0), Due.STATE, 0);
            due.tells(x, "no BEASTS, but a GROUND", afterGround(x), 0, 0);
        });
        s.of("Promise 31", "NOTHING", due -> {
            LastStirred x = Due.flock("g21..b00");
            due.finds(x, "drive(0)", x.drive(0), Due.NOTHING);
            x.row(0, 1);
            x.tear(0);
            due.finds(x, "drive(0), torn", x.drive(0), Due.NOTHING);
        });
        s.of("Promise 31", "UNLIKE: a number that is none", due -> {
            LastStirred x = Due.flock("g61......b00b30");
            for (int v : new int[] {-1, 8, -9, Due.LEAST, Due.MOST}) {
                Due.row(x, 0, 1, v);
                due.finds(x, "DRIVE " + v, x.drive(0), Due.UNLIKE);
                Due.row(x, 0, 3, v);
                due.finds(x, "behind one that can't be, DRIVE " + v, x.drive(0), Due.UNLIKE);
            }
            due.cells(x, "none was done", 0, 3);
            Due.row(x, 0, 7);
            due.is("the greatest", x.drive(0), 1);
            Due.row(x, 0, 0);
            due.is("the least: off the GROUND", x.drive(0), 0);
            x = Due.flock("g21..");
            Due.row(x, 0, 0);
            due.finds(x, "no BEASTS: there is none", x.drive(0), Due.UNLIKE);
            x = Due.flock("g21.~b00");
            x.stir(0, 1);
            Due.row(x, 0, 3);
            due.is("a LOST one's is one", x.drive(0), 0);
        });
        s.of("Promise 31", "SPENT: STEP 10000 would be passed by 40 STEPS for each", due -> {
            LastStirred x = Due.flockAt("g21..b00", 9960);
            x.keep(0);
            Due.row(x, 0, 1, 3);
            due.is("9960, two", x.drive(0), Due.SPENT);
            due.cells(x, "none was done", 0);
            Due.row(x, 0, 1);
            due.is("9960, one", x.drive(0), 1);
            x.on(0);
            x.go(1);
            due.is("9961, one", x.drive(0), Due.SPENT);
            Due.row(x, 0, 3);
            due.is("9961, one that can't be", x.drive(0), Due.SPENT);
            Due.goTo(x, 10000);
            x.row(0, 0);
            due.is("10000, none", x.drive(0), 0);
            x = Due.flockAt("g21..b00", 7600);
            x.row(0, 60);
            for (int i = 0; i < 60; i++) x.lay(0, i, 1);
            due.is("7600, 60", x.drive(0), 1);
            x = Due.flockAt("g21..b00", 7601);
            x.row(0, 60);
            due.is("7601, 60", x.drive(0), Due.SPENT);
        });
        s.of("Promise 31", "(In this order.)", due -> {
            LastStirred x = new LastStirred();
            due.is("BAD ahead of STATE", x.drive(6), Due.BAD);
            due.is("STATE ahead of NOTHING", x.drive(0), Due.STATE);
            Due.row(x, 0, 99);
            due.is("STATE ahead of UNLIKE", x.drive(0), Due.STATE);
            due.is("no finding yet", x.finding(), 0);
            x = Due.flockAt("g21..b00", 10000);
            due.finds(x, "NOTHING, SPENT cannot be", x.drive(0), Due.NOTHING);
            Due.row(x, 0, 1, 4);
            due.finds(x, "UNLIKE ahead of SPENT", x.drive(0), Due.UNLIKE);
            Due.row(x, 0, 1, 3);
            due.is("SPENT", x.drive(0), Due.SPENT);
        });
    }

    private static int afterGround(LastStirred x) {
        Due.write(x, 0, "g21..");
        x.ground(0);
        return x.drive(0);
    }
}
