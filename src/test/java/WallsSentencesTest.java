import java.io.IOException;

/** The sentences of promises 32 to 37 that name a boundary case. */
public final class WallsSentencesTest {
    public static void main(String[] args) throws IOException {
        Sentences s = new Sentences();
        tell(s);
        s.run("WallsSentencesTest");
    }

    static void tell(Sentences s) {
        promise32(s);
        promise33(s);
        promise34(s);
        promise34Bounds(s);
        promise35(s);
        promise35Refused(s);
        promise36(s);
        promise36Refused(s);
        promise37(s);
    }

    private static void promise32(Sentences s) {
        s.of("Promise 32", "CELLS (bits) to which one can come from a CELL, itself among them", due -> {
            due.is("itself alone", Due.flock("g31.#.").reach(2, 1), 4);
            due.is("itself alone, the last one", Due.flock("g65" + ".".repeat(23) + "#....#.").reach(29, 1), 1 << 29);
            due.is("all", Due.flock("g65" + ".".repeat(30)).reach(0, 0), (1 << 30) - 1);
            due.is("all, from the last one", Due.flock("g65" + ".".repeat(30)).reach(29, 1), (1 << 30) - 1);
            due.is("through the FOLD, past a BEAST", Due.flock("g41.o..b20").reach(0, 0), 15);
            int snake = 31 | 1 << 9 | 31 << 10 | 1 << 15 | 31 << 20;
            LastStirred x = Due.flock("g55" + "....." + "####." + "....." + ".####" + ".....");
            due.is("a long way, from its head", x.reach(0, 0), snake);
            due.is("a long way, from its end", x.reach(24, 0), snake);
        });
        s.of("Promise 32", "going from CELL to CELL that are no WALL, no WATER", due -> {
            due.is("a WALL", Due.flock("g31.#.").reach(0, 1), 1);
            due.is("WATER", Due.flock("g31.~.").reach(0, 1), 1);
            due.is("not by a corner", Due.flock("g22.##.").reach(0, 1), 1);
            due.is("not from a row's end to the next row", Due.flock("g32##..##").reach(2, 1), 4);
            due.is("not from a row's first to the row above", Due.flock("g32##..##").reach(3, 1), 8);
        });
        s.of("Promise 32", "(gates 0: no GATE either, but that CELL itself)", due -> {
            LastStirred x = Due.flock("g51.=.=.");
            due.is("gates 0", x.reach(0, 0), 1);
            due.is("gates 1", x.reach(0, 1), 31);
            due.is("gates 0, from a GATE", x.reach(1, 0), 7);
            due.is("gates 0, from one GATE to another one", Due.flock("g31==.").reach(0, 0), 1);
            due.is("gates 1, from one GATE to another one", Due.flock("g31==.").reach(0, 1), 7);
        });
        s.of("Promise 32", "from a WALL, WATER: 0", due -> {
            LastStirred x = Due.flock("g31#~.");
            for (int gates = 0; gates < 2; gates++) {
                due.is("from a WALL", x.reach(0, gates), 0);
                due.is("from WATER", x.reach(1, gates), 0);
                due.is("from GRASS", x.reach(2, gates), 4);
            }
        });
        s.of("Promise 32", "BAD", due -> {
            LastStirred x = Due.flock("g31...");
            for (int c : new int[] {-1, 3, -9, Due.LEAST, Due.MOST}) {
                due.is("reach(" + c + ", 0)", x.reach(c, 0), Due.BAD);
            }
            due.is("reach(30, 0)", Due.flock("g65" + ".".repeat(30)).reach(30, 0), Due.BAD);
            due.is("no GROUND", new LastStirred().reach(0, 0), Due.BAD);
        });
        s.of("Promise 32", "BAD: also gates not 0, 1", due -> {
            LastStirred x = Due.flock("g31..#");
            for (int g : new int[] {-1, 2, Due.LEAST, Due.MOST}) {
                due.is("reach(0, " + g + ")", x.reach(0, g), Due.BAD);
                due.is("from a WALL, reach(2, " + g + ")", x.reach(2, g), Due.BAD);
            }
        });
    }

    private static void promise33(Sentences s) {
        s.of("Promise 33", "Pairs of BEASTS (not LOST) that can never come together", due -> {
            LastStirred x = Due.flock("g61~..#..b10b20b40");
            due.tells(x, "two pairs", x.never(), 2, 2);
            x.stir(0, 3);
            due.tells(x, "one is LOST", x.never(), 1, 12);
            x.stir(1, 3);
            x.stir(1, 3);
            due.tells(x, "two are LOST", x.never(), 0, Due.NONE);
            x = Due.flock("g61~..#..b20b40b10");
            due.tells(x, "0 and 1, 1 and 2", x.never(), 2, 1);
            x.stir(2, 3);
            due.tells(x, "the last one is LOST", x.never(), 1, 1);
        });
        s.of("Promise 33", "by how many no way (with GATES) leads from one to the other, in all", due -> {
            due.is("a WALL", Due.flock("g31.#.b00b20").never(), 1);
            due.is("WATER", Due.flock("g31.~.b00b20").never(), 1);
            due.is("a GATE", Due.flock("g31.=.b00b20").never(), 0);
            due.is("a GATE, LAME ones", Due.flock("g31.=.m00m20").never(), 0);
            due.is("another BEAST between", Due.flock("g31...b00b20b10").never(), 0);
            due.is("all six pairs", Due.flock("g43.#.#####.#.#b00b20b02b22").never(), 6);
            due.is("a corner", Due.flock("g22.##.b00b11").never(), 1);
            LastStirred x = Due.flock("g41....b10b00b30");
            x.keep(0);
            x.stir(0, 1);
            x.build(1, 1);
            x.on(0);
            due.tells(x, "from within a WALL", x.never(), 3, 1);
        });
        s.of("Promise 33", "the first such pair by asked() (10 times the lesser and the greater; NONE)", due -> {
            LastStirred x = Due.flock("g51.....b00b10b20b40");
            due.tells(x, "none", x.never(), 0, Due.NONE);
            x.build(3, 1);
            due.tells(x, "0 and 3, 1 and 3, 2 and 3", x.never(), 3, 3);
            x = Due.flock("g51~.#..b10b30b40");
            due.tells(x, "0 and 1, 0 and 2", x.never(), 2, 1);
            x = Due.flock("g61..~.#.b00b10b30b50");
            x.stir(1, 1);
            x.build(2, 0);
            due.tells(x, "0 and 3, 2 and 3", x.never(), 2, 3);
            x = new LastStirred();
            due.tells(x, "no GROUND", x.never(), 0, Due.NONE);
            x = Due.flock("g31~.#b10");
            due.tells(x, "one", x.never(), 0, Due.NONE);
        });
    }

    private static void wolf(Due due, String ground, int c, int n, int want, int asked) {
        LastStirred x = Due.flock(ground);
        x.count(0);
        due.tells(x, "wolf(" + c + ", " + n + ") on " + ground, x.wolf(c, n), want, asked);
    }

    private static void promise34(Sentences s) {
        s.of("Promise 34", "the shepherd makes a DRIVE (or none)", due -> {
            wolf(due, "g31...b00", 2, 1, 1, Due.NONE);
            wolf(due, "g22....b00", 1, 1, 1, 2);
            wolf(due, "g21..b00", 1, 1, 0, Due.NONE);
        });
        s.of("Promise 34", "then the wolf goes one CELL by a way it chooses (no WALL, no WATER; or stays)", due -> {
            wolf(due, "g31..#b00", 1, 1, 0, Due.NONE);
            wolf(due, "g31.#.b00", 2, 2, 1, Due.NONE);
            wolf(due, "g31.~.b00", 2, 2, 1, Due.NONE);
            wolf(due, "g31.=.b00", 2, 2, 0, Due.NONE);
            wolf(due, "g31.o.b00", 2, 2, 0, Due.NONE);
            wolf(due, "g22....b00", 3, 1, 1, Due.NONE);
            wolf(due, "g32......b20", 3, 1, 1, Due.NONE);
        });
        s.of("Promise 34", "and eats who is there", due -> {
            wolf(due, "g31#..b10", 2, 1, 0, Due.NONE);
            wolf(due, "g31#..c10", 2, 1, 0, Due.NONE);
            wolf(due, "g31o..b00", 1, 1, 0, Due.NONE);
            wolf(due, "g21oob00", 1, 1, 0, Due.NONE);
        });
        s.of("Promise 34", "for n (1, 2) turns", due -> {
            wolf(due, "g31...b00", 2, 1, 1, Due.NONE);
            wolf(due, "g31...b00", 2, 2, 0, Due.NONE);
            wolf(due, "g41....b00", 3, 2, 1, Due.NONE);
            LastStirred x = Due.flock("g41....b00");
            for (int n : new int[] {0, 3, -1, Due.LEAST, Due.MOST}) {
                due.is("wolf(3, " + n + ")", x.wolf(3, n), Due.BAD);
            }
        });
    }

    private static void promise34Bounds(Sentences s) {
        s.of("Promise 34", "all as they are that are not LOST now (not LOST, not eaten), 0 not", due -> {
            wolf(due, "g31~..b10", 2, 1, 0, Due.NONE);
            LastStirred x = Due.flock("g31~..b10");
            x.stir(0, 3);
            due.tells(x, "who is LOST now is not kept", x.wolf(1, 2), 1, Due.NONE);
            x = Due.flock("g41~...b10b30");
            x.stir(0, 3);
            due.tells(x, "the other one is eaten", x.wolf(2, 1), 0, Due.NONE);
            x = Due.flock("g21..");
            due.tells(x, "no BEASTS", x.wolf(0, 2), 1, Due.NONE);
            x = Due.flockAt("g22....b00", 10000);
            due.tells(x, "behind STEP 10000", x.wolf(1, 2), 1, 2);
        });
        s.of("Promise 34", "the first DRIVE (none comes first: NONE) by which by asked() (0: NONE)", due -> {
            wolf(due, "g22....b00", 3, 1, 1, Due.NONE);
            wolf(due, "g22....b00", 2, 1, 1, 1);
            wolf(due, "g22....b11", 2, 1, 1, 0);
            wolf(due, "g41....b10b20", 0, 1, 1, 5);
            wolf(due, "g41....b10", 3, 1, 1, Due.NONE);
            wolf(due, "g33.........b11", 5, 1, 1, 0);
            LastStirred x = Due.flock("g21..b00");
            x.cell(0);
            due.tells(x, "0", x.wolf(1, 1), 0, Due.NONE);
        });
        s.of("Promise 34", "BAD", due -> {
            LastStirred x = Due.flock("g31...b00");
            for (int c : new int[] {-1, 3, -9, Due.LEAST, Due.MOST}) {
                due.is("wolf(" + c + ", 1)", x.wolf(c, 1), Due.BAD);
            }
            due.is("no GROUND", new LastStirred().wolf(0, 1), Due.BAD);
        });
        s.of("Promise 34", "BAD: also a WALL, WATER", due -> {
            LastStirred x = Due.flock("g41#~=o");
            due.is("a WALL", x.wolf(0, 1), Due.BAD);
            due.is("WATER", x.wolf(1, 1), Due.BAD);
            due.is("a GATE", x.wolf(2, 1), 1);
            due.is("the FOLD", x.wolf(3, 1), 1);
        });
        s.of("Promise 34", "STATE: a BEAST is there", due -> {
            LastStirred x = Due.flock("g31.~.b00");
            due.tells(x, "wolf(0, 1)", x.wolf(0, 1), Due.STATE, 0);
            x.stir(0, 1);
            due.is("which it left", x.wolf(0, 1), 1);
        });
    }

    private static void promise35(Sentences s) {
        s.of("Promise 35", "From dusk (as it is) to dawn (a ROW of CELLS of all BEASTS, NONE: LOST)", due -> {
            LastStirred x = Due.flock("g31.~.b00b20");
            Due.row(x, 0, 0, 2);
            due.tells(x, "as it is", x.dawn(0), 0, 1);
            Due.row(x, 0, Due.NONE, 2);
            due.tells(x, "one LOST", x.dawn(0), 1, 1);
            Due.row(x, 0, Due.NONE, Due.NONE);
            due.tells(x, "both LOST", x.dawn(0), 2, 2);
            Due.row(x, 0, 2, 0);
            due.is("the other way round", x.dawn(0), Due.NONE);
            due.is("fewest() between", x.fewest(), Due.NONE);
            Due.row(x, 0, Due.NONE, 2);
            due.tells(x, "one LOST, again", x.dawn(0), 1, 1);
            x = new LastStirred();
            x.row(0, 0);
            due.tells(x, "no GROUND, a ROW of none", x.dawn(0), 0, 1);
            x = Due.flock("g41....b00b30");
            x.stir(1, 3);
            Due.row(x, 0, 0, 2);
            due.tells(x, "as it is, though they do not STAND", x.dawn(0), 0, 1);
        });
        s.of("Promise 35", "the fewest DRIVES (0 .. 2) that lead there", due -> {
            LastStirred x = Due.flock("g41....b00");
            for (int c = 0; c < 4; c++) {
                Due.row(x, 0, c);
                due.is("to CELL " + c, x.dawn(0), c < 3 ? c : Due.NONE);
            }
            x = Due.flockAt("g41....b00", 10000);
            Due.row(x, 0, 2);
            due.is("behind STEP 10000", x.dawn(0), 2);
        });
        s.of("Promise 35", "how many rows of so many do by asked()", due -> {
            LastStirred x = Due.flock("g22....b00");
            Due.row(x, 0, 0);
            due.tells(x, "of 0, the one", x.dawn(0), 0, 1);
            Due.row(x, 0, 1);
            due.tells(x, "of 1", x.dawn(0), 1, 1);
            Due.row(x, 0, 3);
            due.tells(x, "of 2", x.dawn(0), 2, 2);
            x = Due.flock("g41....b00b30");
            Due.row(x, 0, 1, 2);
            due.tells(x, "by either", x.dawn(0), 1, 2);
        });
        s.of("Promise 35", "NONE: none.", due -> {
            LastStirred x = Due.flock("g41....b00b30");
            Due.row(x, 0, 1, 1);
            x.cell(3);
            due.tells(x, "two in one CELL", x.dawn(0), Due.NONE, 1);
            Due.row(x, 0, 0, Due.NONE);
            x.cell(3);
            due.tells(x, "LOST, but there is no WATER", x.dawn(0), Due.NONE, 1);
        });
    }

    private static void promise35Refused(Sentences s) {
        s.of("Promise 35", "BAD", due -> {
            LastStirred x = Due.flock("g21..b00");
            for (int r : new int[] {-1, 6, Due.LEAST, Due.MOST}) due.is("dawn(" + r + ")", x.dawn(r), Due.BAD);
        });
        s.of("Promise 35", "NOTHING", due -> {
            LastStirred x = Due.flock("g21..b00");
            due.finds(x, "dawn(0)", x.dawn(0), Due.NOTHING);
            x.row(0, 1);
            x.tear(0);
            due.finds(x, "dawn(0), torn", x.dawn(0), Due.NOTHING);
        });
        s.of("Promise 35", "SIZE: not as many", due -> {
            LastStirred x = Due.flock("g31~..b10b20");
            x.row(0, 0);
            due.finds(x, "none", x.dawn(0), Due.SIZE);
            Due.row(x, 0, 1);
            due.finds(x, "one too few", x.dawn(0), Due.SIZE);
            Due.row(x, 0, 1, 2, 0);
            due.finds(x, "one too many", x.dawn(0), Due.SIZE);
            Due.row(x, 0, 1, 2, 77);
            due.finds(x, "and a number that is none", x.dawn(0), Due.SIZE);
            x.stir(0, 3);
            Due.row(x, 0, 2);
            due.finds(x, "as many as are not LOST", x.dawn(0), Due.SIZE);
            x = Due.flock("g21..");
            x.row(0, 1);
            due.finds(x, "no BEASTS", x.dawn(0), Due.SIZE);
        });
        s.of("Promise 35", "UNLIKE: no CELL, nor NONE", due -> {
            LastStirred x = Due.flock("g21..b00b10");
            for (int c : new int[] {2, -1, -8, -10, 30, Due.LEAST, Due.MOST}) {
                Due.row(x, 0, c, 1);
                due.finds(x, "the first is " + c, x.dawn(0), Due.UNLIKE);
                Due.row(x, 0, 0, c);
                due.finds(x, "the last is " + c, x.dawn(0), Due.UNLIKE);
            }
            Due.row(x, 0, Due.NONE, 1);
            due.is("NONE", x.dawn(0), Due.NONE);
        });
    }

    private static void promise36(Sentences s) {
        s.of("Promise 36", "BEASTS (bits) with which any row of so few DRIVES begins; the ways (bits) by which by asked()", due -> {
            LastStirred x = Due.flock("g22....b00");
            Due.row(x, 0, 2);
            due.tells(x, "of 1: down", x.who(0), 1, 1 << 2);
            Due.row(x, 0, 3);
            due.tells(x, "of 2: right or down first", x.who(0), 1, 1 << 1 | 1 << 2);
            x.build(2, 1);
            due.tells(x, "of 2: right first, then down", x.who(0), 1, 1 << 1);
            x = Due.flock("g41....b00b30");
            Due.row(x, 0, 1, 2);
            due.tells(x, "either BEAST", x.who(0), 3, 1 << 1 | 1 << 3);
            x.build(1, 1);
            Due.row(x, 0, 0, 2);
            due.tells(x, "one BEAST, behind either one", x.who(0), 2, 1 << 3);
            x = Due.flock("g51oooo.b00b10b20b40");
            Due.row(x, 0, 0, 1, 2, 3);
            due.tells(x, "BEAST 3", x.who(0), 1 << 3, 1 << 3);
            x = Due.flock("g22....b11");
            Due.row(x, 0, 1);
            due.tells(x, "up", x.who(0), 1, 1);
        });
        s.of("Promise 36", "NONE: none, or 0 DRIVES", due -> {
            LastStirred x = Due.flock("g41....b00");
            Due.row(x, 0, 3);
            x.cell(0);
            due.tells(x, "none of 2", x.who(0), Due.NONE, 0);
            Due.row(x, 0, 0);
            x.cell(0);
            due.tells(x, "0 DRIVES", x.who(0), Due.NONE, 0);
            x = Due.flock("g31~.~b10");
            Due.row(x, 0, Due.NONE);
            due.tells(x, "LOST by either way", x.who(0), 1, 1 << 1 | 1 << 3);
            x.stir(0, 1);
            x.cell(0);
            due.tells(x, "LOST by now", x.who(0), Due.NONE, Due.NONE);
            x = new LastStirred();
            x.row(0, 0);
            due.tells(x, "no GROUND, a ROW of none", x.who(0), Due.NONE, 0);
        });
    }

    private static void promise36Refused(Sentences s) {
        s.of("Promise 36", "BAD", due -> {
            LastStirred x = Due.flock("g21..b00");
            for (int r : new int[] {-1, 6, Due.LEAST, Due.MOST}) due.is("who(" + r + ")", x.who(r), Due.BAD);
        });
        s.of("Promise 36", "NOTHING", due -> {
            LastStirred x = Due.flock("g21..b00");
            due.finds(x, "who(5)", x.who(5), Due.NOTHING);
        });
        s.of("Promise 36", "SIZE", due -> {
            LastStirred x = Due.flock("g21..b00b10");
            Due.row(x, 0, 0);
            due.finds(x, "one too few", x.who(0), Due.SIZE);
            Due.row(x, 0, 0, 1, 1);
            due.finds(x, "one too many", x.who(0), Due.SIZE);
            Due.row(x, 0, 99);
            due.finds(x, "and a number that is none", x.who(0), Due.SIZE);
        });
        s.of("Promise 36", "UNLIKE", due -> {
            LastStirred x = Due.flock("g21..b00b10");
            for (int c : new int[] {2, -1, -8, -10, Due.LEAST, Due.MOST}) {
                Due.row(x, 0, c, 1);
                due.finds(x, "the first is " + c, x.who(0), Due.UNLIKE);
                Due.row(x, 0, 0, c);
                due.finds(x, "the last is " + c, x.who(0), Due.UNLIKE);
            }
        });
    }

    private static void promise37(Sentences s) {
        s.of("Promise 37", "Were all of a KIND (0 .. 5)", due -> {
            int[] want = {1, 2, 1, 1, 1, 2};
            LastStirred x = Due.flock("g51ooo..s10m30");
            for (int kind = 0; kind < 6; kind++) due.is("breed(" + kind + ")", x.breed(kind), want[kind]);
            due.tells(x, "they are as they were", x.beast(0, 0), 1, 1);
            x = Due.flock("g31.=om00");
            due.is("a GATE, were it a BEAST", x.breed(0), 2);
            due.is("a GATE, were it LAME", x.breed(4), Due.NONE);
            x = Due.flock("g31.=ob00");
            due.is("a GATE, were it LAME", x.breed(4), Due.NONE);
            due.is("a GATE, were it TIMID", x.breed(5), 2);
        });
        s.of("Promise 37", "the fewest DRIVES (0 .. 2) behind which they are SAFE", due -> {
            for (int kind = 0; kind < 6; kind++) {
                due.is("0", Due.flock("g21o.b00").breed(kind), 0);
                due.is("1", Due.flock("g21.ob00").breed(kind), 1);
                due.is("2", Due.flock("g31..ob00").breed(kind), 2);
            }
            due.is("behind STEP 10000", Due.flockAt("g31..ob00", 10000).breed(0), 2);
        });
        s.of("Promise 37", "NONE: not with 2", due -> {
            LastStirred x = Due.flock("g41...ob00");
            for (int kind = 0; kind < 6; kind++) due.is("with 3, KIND " + kind, x.breed(kind), Due.NONE);
            due.is("with 3", x.fewest(), 3);
            due.is("no BEASTS", Due.flock("g21oo").breed(0), Due.NONE);
            x = Due.flock("g31o~.b00b20");
            x.stir(1, 3);
            due.is("one is LOST", x.breed(0), Due.NONE);
        });
        s.of("Promise 37", "BAD", due -> {
            LastStirred x = Due.flock("g21oob00");
            for (int kind : new int[] {-1, 6, Due.LEAST, Due.MOST}) {
                due.is("breed(" + kind + ")", x.breed(kind), Due.BAD);
            }
        });
        s.of("Promise 37", "STATE: no GROUND", due -> {
            LastStirred x = new LastStirred();
            for (int kind = 0; kind < 6; kind++) due.is("breed(" + kind + ")", x.breed(kind), Due.STATE);
            due.is("no BEASTS, but a GROUND", Due.flock("g21..").breed(5), Due.NONE);
        });
    }
}
