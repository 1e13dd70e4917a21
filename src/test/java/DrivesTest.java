/** Promises 25 to 31. */
public final class DrivesTest {
    private static final Due due = new Due("drives");

    private static void fewest(String ground, int want, int asked) {
        LastStirred x = Due.flock(ground);
        long before = x.digest();
        due.tells(x, "fewest() on " + ground, x.fewest(), want, asked);
        due.is("it stays", x.digest(), before);
    }

    private static void promise25() {
        due.is("fewest(), no ground", new LastStirred().fewest(), Due.STATE);
        fewest("g21oo", Due.NONE, 0);
        fewest("g21oob00", 0, 0);
        fewest("g21oob00t10", 0, 0);
        fewest("g21o.b00b10", Due.NONE, 0);
        fewest("g21.ob00", 1, 1);
        fewest("g21o.b10", 1, 3);
        fewest("g22..o.b00", 1, 2);
        fewest("g22o...b01", 1, 0);
        fewest("g31..ob00", 2, 0x11);
        fewest("g41...ob00", 3, 0x111);
        fewest("g51....ob00", Due.NONE, 0);
        fewest("g22...ob00", 2, 0x12);
        fewest("g41.oo.b00b30", 1, 1);
        fewest("g61...ooob00b10", 3, 0x555);
        fewest("g31.=ob00", 2, 0x11);
        fewest("g31.=om00", Due.NONE, 0);
        LastStirred x = Due.flock("g31~.ob10s20");
        x.stir(0, 3);
        x.cell(2);
        due.tells(x, "one is lost, the other is in the fold", x.fewest(), Due.NONE, 1);
        x = Due.flock("g31..ob00");
        for (int i = 0; i < 250; i++) x.go(40);
        due.tells(x, "behind 10000 steps", x.fewest(), 2, 0x11);
    }

    private static void ways(String ground, int n, int want, long upper, long lower) {
        LastStirred x = Due.flock(ground);
        long before = x.digest();
        String call = "ways(" + n + ") on " + ground;
        due.is(call, x.ways(n), want);
        due.is(call + ", upper()", x.upper(), upper);
        due.is(call + ", lower()", x.lower(), lower);
        due.is("it stays", x.digest(), before);
    }

    private static void promise26() {
        ways("g21.ob00", 1, 1, 1, 1);
        ways("g21.ob00", 2, 0, 0, 1);
        ways("g21oob00", 1, 1, 1, 1);
        ways("g22...ob00", 1, 0, 0, 1);
        ways("g22...ob00", 2, 2, 1, 2);
        ways("g41.oo.b00b30", 1, 2, 1, 1);
        ways("g33.o.......b11", 1, 1, 1, 4);
        ways("g33.o.......b11", 2, 0, 0, 1);
        ways("g33.o.o.....b11", 1, 2, 1, 2);
        ways("g33o........b11", 2, 2, 1, 6);
        ways("g21.~b00", 1, 0, 0, 1);
        LastStirred x = new LastStirred();
        due.finds(x, "ways(1), no ground", x.ways(1), Due.NOUGHT);
        due.is("ways(0)", x.ways(0), Due.BAD);
        due.is("ways(3)", x.ways(3), Due.BAD);
        x = Due.flock("g21.~b00");
        due.finds(x, "ways(2): none can be", x.ways(2), Due.NOUGHT);
        due.is("upper()", x.upper(), 0);
        due.is("lower()", x.lower(), 1);
        x = Due.flock("g33.o.......b11");
        x.ways(1);
        x.build(0, 0);
        due.is("ways(0)", x.ways(0), Due.BAD);
        Due.write(x, 0, "g21..b00b10");
        x.ground(0);
        due.finds(x, "ways(1): none can be", x.ways(1), Due.NOUGHT);
        due.is("upper() stays", x.upper(), 1);
        due.is("lower() stays", x.lower(), 4);
    }

    private static void promise27() {
        LastStirred x = new LastStirred();
        due.tells(x, "gather(), no ground", x.gather(), Due.NONE, 0);
        x = Due.flock("g61......b00b50");
        long before = x.digest();
        due.tells(x, "either of them: the first", x.gather(), 1, 1);
        due.is("it stays", x.digest(), before);
        x = Due.flock("g21..b00");
        due.tells(x, "one alone", x.gather(), 1, 0);
        x = Due.flock("g61......b50t00");
        due.tells(x, "the second brings them nearer", x.gather(), 5, 3);
        x = Due.flock("g41.~..b00b20");
        x.cell(2);
        due.tells(x, "each drive loses one", x.gather(), Due.NONE, 1);
        x = Due.flock("g51~....b10b20b40");
        x.stir(0, 3);
        due.tells(x, "none is lost more", x.gather(), 5, 1);
        x = Due.flock("g21..b00s10");
        due.tells(x, "no drive can be", x.gather(), Due.NONE, 0);
        x = Due.flock("g23.#.#.#b01b02");
        due.tells(x, "drive 0", x.gather(), 0, 1);
        x = Due.flock("g61......b00b10b20b50");
        due.tells(x, "four: two drives bring them side by side, the first", x.gather(), 9, 10);
    }

    private static void promise28() {
        LastStirred x = new LastStirred();
        due.is("part(0, 1), no ground", x.part(0, 1), Due.BAD);
        x = Due.flock("g61......b00s20");
        due.is("part(0, 0)", x.part(0, 0), Due.BAD);
        due.is("part(0, 2)", x.part(0, 2), Due.BAD);
        due.is("part(2, 0)", x.part(2, 0), Due.BAD);
        due.is("part(-1, 0)", x.part(-1, 0), Due.BAD);
        due.is("part(0, -1)", x.part(0, -1), Due.BAD);
        long before = x.digest();
        due.tells(x, "part(0, 1)", x.part(0, 1), 5, 2);
        due.tells(x, "part(1, 0)", x.part(1, 0), 5, 2);
        due.is("it stays", x.digest(), before);
        x = Due.flock("g61......b50t00");
        due.tells(x, "4 off by the first, 3 by the second", x.part(0, 1), 3, 4);
        x = Due.flock("g61......b00b50");
        due.tells(x, "1 off by each: the first", x.part(0, 1), 1, 1);
        x = Due.flock("g21..b00b10");
        due.tells(x, "none can be", x.part(0, 1), Due.NONE, 0);
        x = Due.flock("g51.~...b00b20b40");
        x.cell(4);
        due.tells(x, "one of them is lost by each", x.part(0, 2), Due.NONE, 2);
        due.tells(x, "another one may be lost", x.part(1, 2), 1, 1);
        x = Due.flock("g23.#.#.#b01b02");
        due.tells(x, "drive 0", x.part(0, 1), 0, 1);
    }

    private static void promise29() {
        LastStirred x = new LastStirred();
        due.is("worth(0, 0), no ground", x.worth(0, 0), Due.BAD);
        x = Due.flock("g61......b00s20");
        long before = x.digest();
        due.tells(x, "worth(1, 1)", x.worth(1, 1), 2, 5);
        due.tells(x, "worth(0, 1): in its run it goes itself", x.worth(0, 1), 2, 6);
        due.tells(x, "worth(1, 3): the stirring aside", x.worth(1, 3), 0, 0);
        due.is("it stays", x.digest(), before);
        x.worth(1, 1);
        due.is("worth(0, 3)", x.worth(0, 3), Due.STATE);
        due.is("worth(0, 4)", x.worth(0, 4), Due.BAD);
        due.is("worth(0, -1)", x.worth(0, -1), Due.BAD);
        due.is("worth(2, 1)", x.worth(2, 1), Due.BAD);
        due.is("worth(-1, 1)", x.worth(-1, 1), Due.BAD);
        due.is("asked() stays", x.asked(), 5);
        x.stir(1, 3);
        x.run();
        due.tells(x, "what they went ahead does not count", x.worth(1, 1), 2, 7);
        x = Due.flock("g31.~.b00b20");
        x.stir(0, 1);
        due.is("a lost one", x.worth(0, 0), Due.STATE);
        x = Due.flock("g41.oo.b00b30");
        due.tells(x, "one, by one cell", x.worth(0, 1), 1, 1);
        x = Due.flock("g61......b10b00b20b40");
        due.tells(x, "four: each goes, the stirred one back", x.worth(3, 1), 4, 4);
    }

    private static void promise30() {
        LastStirred x = new LastStirred();
        due.is("stone(0), no ground", x.stone(0), Due.BAD);
        x = Due.flock("g33.........b11");
        due.is("stone(-1)", x.stone(-1), Due.BAD);
        due.is("stone(9)", x.stone(9), Due.BAD);
        due.is("stone(4), upon it", x.stone(4), 0);
        due.is("stone(0), 2 off", x.stone(0), 0);
        due.last(x, "none went", Due.NONE, Due.NONE);
        due.is("stone(1)", x.stone(1), 1);
        due.cells(x, "stone(1)", 7);
        due.last(x, "stone(1)", 0, 7);
        due.is("no step goes by", x.count(3), 0);
        due.tells(x, "it went", x.beast(0, 2), 1, 1);
        due.is("stone(8)", x.stone(8), 1);
        due.cells(x, "stone(8)", 6);
        due.is("stone(7): the edge", x.stone(7), 0);
        x = Due.flock("g55.........................c21b32b23b12");
        due.is("four go", x.stone(12), 4);
        due.cells(x, "four go", 2, 14, 22, 10);
        due.last(x, "four go", 3, 10);
        due.is("no LAST BUT ONE by it", x.mark(0, 3), 10);
        x = Due.flock("g31...b10b00");
        due.is("another one is behind", x.stone(2), 0);
        x = Due.flock("g61......b00b50b30");
        due.is("only the third is 1 off", x.stone(4), 1);
        due.cells(x, "only the third", 0, 5, 2);
        due.is("a WALL is behind", Due.flock("g31#..b10").stone(2), 0);
        due.is("on a WALL", Due.flock("g31#..b10").stone(0), Due.BAD);
        due.is("on WATER", Due.flock("g31~..b10").stone(0), 1);
        x = Due.flock("g31~..b10");
        due.is("into the water", x.stone(2), 1);
        due.cells(x, "into the water", Due.NONE);
        due.last(x, "into the water", 0, 0);
        due.is("a lost one stays", x.stone(1), 0);
        due.is("two gates", Due.flock("g51=...=b10b30").stone(2), 2);
        due.is("LAME goes into no gate", Due.flock("g51=...=m10b30").stone(2), 1);
        x = Due.flock("g31...l10");
        x.go(1);
        due.is("SLOW goes, by an odd step too", x.stone(0), 1);
        stoneAndLast();
    }

    private static void stoneAndLast() {
        LastStirred x = Due.flock("g61......b00b30c50");
        x.stir(0, 1);
        due.is("both go", x.stone(2), 2);
        due.cells(x, "both go", 0, 4, 5);
        due.last(x, "both go", 1, 4);
        due.is("the one ahead, with the cell that it had as it stirred", x.mark(2, 3), 1);
        x = Due.flock("g61......b00b40c50");
        x.stir(0, 1);
        due.is("the LAST goes", x.stone(0), 1);
        due.last(x, "the LAST goes", 0, 2);
        due.is("it was the LAST ahead itself", x.mark(2, 3), 1);
    }

    private static void promise31() {
        LastStirred x = new LastStirred();
        due.is("drive(6), no ground", x.drive(6), Due.BAD);
        due.is("drive(-1), no ground", x.drive(-1), Due.BAD);
        due.is("drive(0), no ground, no row", x.drive(0), Due.STATE);
        x = Due.flock("g61...ooob00b10");
        due.finds(x, "drive(0), no row", x.drive(0), Due.NOTHING);
        Due.row(x, 0, 5, 8);
        due.finds(x, "drive(0), a beast that there is not", x.drive(0), Due.UNLIKE);
        Due.row(x, 0, -1);
        due.finds(x, "drive(0), below 0", x.drive(0), Due.UNLIKE);
        due.is("nothing was done", x.count(3), 0);
        x.row(0, 0);
        due.tells(x, "no drives", x.drive(0), 0, 0);
        Due.row(x, 0, 5, 5, 5);
        due.tells(x, "three drives", x.drive(0), 3, 0);
        due.is("they are safe", x.fewest(), 0);
        Due.row(x, 0, 3, 0, 3);
        due.tells(x, "till one can't be", x.drive(0), 1, 0);
        x = Due.flock("g21..");
        x.row(0, 0);
        due.tells(x, "no beasts, no drives", x.drive(0), 0, 0);
        Due.row(x, 0, 0);
        due.finds(x, "no beasts, drive 0", x.drive(0), Due.UNLIKE);
        x = Due.flock("g31...b00");
        x.row(0, 60);
        for (int i = 0; i < 60; i++) x.lay(0, i, i % 2 == 0 ? 1 : 3);
        due.tells(x, "60 drives, to and fro", x.drive(0), 60, 0);
        due.is("each ran for two steps", x.count(3), 120);
        x = Due.flock("g31..~b00");
        Due.row(x, 1, 1, 1, 1);
        due.tells(x, "two, then it is lost", x.drive(1), 2, 1);
        due.is("each ran for two steps", x.count(3), 4);
        due.tells(x, "none, but one is lost", x.drive(1), 0, 1);
        x = Due.flock("g21..b00");
        Due.row(x, 0, 1);
        Due.row(x, 1, 1, 3);
        Due.row(x, 2, 1, 4);
        x.row(3, 0);
        for (int i = 0; i < 248; i++) x.go(40);
        x.go(1);
        due.is("9921 steps: two drives", x.drive(1), Due.SPENT);
        due.finds(x, "9921 steps, a number that is none", x.drive(2), Due.UNLIKE);
        due.is("nothing was done", x.count(3), 9921);
        due.tells(x, "9921 steps: one drive", x.drive(0), 1, 0);
        x.go(37);
        due.is("9960 steps: one drive that can't be", x.drive(0), 0);
        x.go(1);
        due.is("9961 steps: one drive", x.drive(0), Due.SPENT);
        x.go(39);
        due.tells(x, "10000 steps: no drives", x.drive(3), 0, 0);
        x = Due.flock("g21..b00");
        for (int i = 0; i < 248; i++) x.go(40);
        Due.row(x, 1, 1, 3);
        due.is("9920 steps: two drives", x.drive(1), 2);
        due.is("9924 steps", x.count(3), 9924);
    }

    public static void main(String[] args) {
        promise25();
        promise26();
        promise27();
        promise28();
        promise29();
        promise30();
        promise31();
        due.end();
    }
}
