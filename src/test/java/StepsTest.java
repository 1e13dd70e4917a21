/** Promises 17 to 24, and the terms of steps, stirrings and runs. */
public final class StepsTest {
    private static final Due due = new Due("steps, runs");
    // Two LAME ones and a BEAST that go round and round: 16 steps a ring, behind the first one.
    private static final String ROUND = "g22....m10b11m00";

    private static void promise17() {
        int[] to = {1, 5, 7, 3};
        for (int way = 0; way < 4; way++) {
            LastStirred x = Due.flock("g33.........b11");
            due.is("stir(0, " + way + ")", x.stir(0, way), to[way]);
            due.cells(x, "the stirring", to[way]);
            due.last(x, "the stirring", 0, to[way]);
            due.tells(x, "it went", x.beast(0, 2), 1, 1);
            due.is("no step goes by", x.count(3), 0);
        }
        LastStirred x = Due.flock("g21..b00");
        due.is("off the ground, up", x.stir(0, 0), Due.STATE);
        due.is("off the ground, down", x.stir(0, 2), Due.STATE);
        due.is("off the ground, left", x.stir(0, 3), Due.STATE);
        due.is("stir(1, 0)", x.stir(1, 0), Due.BAD);
        due.is("stir(-1, 0)", x.stir(-1, 0), Due.BAD);
        due.is("stir(0, 4)", x.stir(0, 4), Due.BAD);
        due.is("stir(0, -1)", x.stir(0, -1), Due.BAD);
        due.last(x, "what is refused", Due.NONE, Due.NONE);
        due.is("into a WALL", Due.flock("g21.#b00").stir(0, 1), Due.STATE);
        due.is("where another one is", Due.flock("g21..b00s10").stir(0, 1), Due.STATE);
        due.is("into the FOLD", Due.flock("g21.ob00").stir(0, 1), 1);
        due.is("into a GATE", Due.flock("g21.=b00").stir(0, 1), 1);
        due.is("LAME, into a GATE", Due.flock("g21.=m00").stir(0, 1), Due.STATE);
        due.is("LAME, out of a GATE", Due.flock("g21=.m00").stir(0, 1), 1);
        due.is("off the end of a line", Due.flock("g32......b20").stir(0, 1), Due.STATE);
        x = Due.flock("g31...l00");
        x.go(1);
        due.is("SLOW, an odd step ahead", x.stir(0, 1), 1);
        x = Due.flock("g31.~.b00b20");
        due.is("into WATER", x.stir(0, 1), 1);
        due.cells(x, "WATER", Due.NONE, 2);
        due.last(x, "WATER", 0, 1);
        due.is("a lost one", x.stir(0, 1), Due.STATE);
        due.is("a lost one, a bad way", x.stir(0, 4), Due.BAD);
        due.is("the water lets another one in", x.stir(1, 3), 1);
        due.is("both are lost", x.count(2), 2);
        due.is("no ground", new LastStirred().stir(0, 0), Due.BAD);
    }

    private static void towards() {
        LastStirred x = Due.flock("g61......b00b50");
        x.stir(1, 3);
        due.is("one goes, the LAST stays", x.go(1), 1);
        due.last(x, "a step", 0, 1);
        due.is("now the other", x.go(1), 2);
        due.cells(x, "two steps", 1, 3);
        due.is("now the one", x.go(1), 1);
        due.is("1 off: none goes", x.go(1), 0);
        due.cells(x, "four steps", 2, 3);

        x = Due.flock("g33.........b00b12");
        x.stir(1, 1);
        due.is("alike: across", x.go(1), 1);
        due.cells(x, "alike", 1, 8);
        x = Due.flock("g33.........b00b02");
        x.stir(1, 1);
        x.go(1);
        due.cells(x, "farther down", 3, 7);
        x = Due.flock("g33.........b22b10");
        x.stir(1, 3);
        x.go(1);
        due.cells(x, "back, across", 7, 0);
        x = Due.flock("g33.........b22b20");
        x.stir(1, 3);
        x.go(1);
        due.cells(x, "back, up", 5, 1);
        x = Due.flock("g33...#.....b00b02");
        x.stir(1, 1);
        x.go(1);
        due.cells(x, "a WALL down: across", 1, 7);
        x = Due.flock("g33...#.....b00b12");
        x.stir(1, 3);
        due.is("a WALL down, not apart across", x.go(1), 0);
        x = Due.flock("g33.#.......b00b22");
        x.stir(1, 0);
        x.go(1);
        due.cells(x, "a WALL across: down", 3, 5);
        x = Due.flock("g33.#.......b00b21");
        x.stir(1, 0);
        due.is("a WALL across, not apart down", x.go(1), 0);
    }

    private static void oneBehindTheOther() {
        LastStirred x = Due.flock("g51.....b10b00b40");
        x.stir(2, 3);
        due.is("into the cell that the one ahead left", x.go(1), 3);
        due.cells(x, "both went", 2, 1, 3);
        due.last(x, "the last that went", 1, 1);
        x = Due.flock("g51.....b00b10b40");
        x.stir(2, 3);
        due.is("not where another one still is", x.go(1), 2);
        due.cells(x, "one went", 0, 2, 3);
        // By the LAST as the step began: 3 to 2, though 1 is nearer to it by then.
        x = Due.flock("g61......b00b10b50");
        x.stir(2, 3);
        x.go(1);
        due.cells(x, "first step", 0, 2, 4);
        due.is("second step", x.go(1), 5);
        due.cells(x, "second step", 1, 2, 3);
        due.last(x, "second step", 2, 3);
    }

    private static void away() {
        LastStirred x = Due.flock("g51.....s20b40");
        x.stir(1, 3);
        due.is("SHY, 1 off", x.go(1), 1);
        due.cells(x, "SHY, 1 off", 1, 3);
        x = Due.flock("g61......s10b50");
        x.stir(1, 3);
        due.is("SHY, 3 off", x.go(1), 1);
        due.cells(x, "SHY, 3 off", 0, 4);
        due.is("the other comes", x.go(1), 2);
        due.is("SHY at the edge", x.go(1), 0);
        x = Due.flock("g33.........s11b10");
        x.stir(1, 3);
        x.go(1);
        due.cells(x, "SHY, alike: across", 5, 0);
        x = Due.flock("g33.....#...s11b10");
        x.stir(1, 3);
        x.go(1);
        due.cells(x, "SHY, a WALL across: down", 7, 0);
        x = Due.flock("g33.....#...s11b00");
        x.stir(1, 2);
        due.is("SHY, a WALL across, not apart down", x.go(1), 0);
        x = Due.flock("g33.........s12b10");
        x.stir(1, 3);
        due.is("SHY, farther down, at the edge: across", x.go(1), 1);
        due.cells(x, "SHY, farther down, at the edge", 8, 0);
        x = Due.flock("g34............s12b10");
        x.stir(1, 3);
        x.go(1);
        due.cells(x, "SHY, farther down", 10, 0);
        x = Due.flock("g51....~s30b10");
        x.stir(1, 1);
        due.is("SHY goes into the water", x.go(1), 1);
        due.cells(x, "SHY is lost", Due.NONE, 2);

        x = Due.flock("g61......t20b50");
        x.stir(1, 3);
        due.is("TIMID, 2 off", x.go(1), 1);
        due.cells(x, "TIMID, 2 off", 1, 4);
        x = Due.flock("g61......t10b50");
        x.stir(1, 3);
        due.is("TIMID, 3 off", x.go(1), 0);
        x = Due.flock("g51.....t20b40");
        x.stir(1, 3);
        due.is("TIMID, 1 off", x.go(1), 1);
    }

    private static void slowAndLame() {
        for (String kind : new String[] {"l", "m"}) {
            LastStirred x = Due.flock("g51....." + kind + "00b40");
            x.stir(1, 3);
            due.is(kind + ", step 0", x.go(1), 1);
            due.is(kind + ", step 1", x.go(1), 2);
            due.cells(x, kind + ", step 1", 1, 2);
            x = Due.flock("g51....." + kind + "00b40");
            x.go(1);
            x.stir(1, 3);
            due.is(kind + ", step 1", x.go(1), 0);
            due.is(kind + ", step 2", x.go(1), 1);
        }
        LastStirred x = Due.flock("g43.=...=......m00b01b32");
        x.stir(2, 0);
        due.is("LAME never goes into the gate, so it is free", x.go(1), 2);
        due.cells(x, "LAME", 0, 5, 7);
        x = Due.flock("g43.=...=......l00b01b32");
        x.stir(2, 0);
        due.is("one a step goes into a gate", x.go(1), 1);
        due.cells(x, "one a step", 1, 4, 7);
        due.is("in the next step another one", x.go(1), 6);
        due.cells(x, "next step", 1, 5, 6);
    }

    private static void chaser() {
        LastStirred x = Due.flock("g61......c30b00b50");
        x.stir(1, 1);
        due.is("CHASER, no LAST BUT ONE: after the LAST", x.mark(0, 3), 1);
        x.stir(2, 3);
        due.is("CHASER, after the LAST BUT ONE", x.go(1), 1);
        due.cells(x, "CHASER", 2, 1, 4);
        due.is("the LAST BUT ONE is who was the LAST", x.mark(0, 3), 4);
        x = Due.flock("g61......c00b50");
        x.stir(1, 3);
        due.is("CHASER, only a LAST", x.go(1), 1);
        due.is("another one by the step", x.mark(0, 3), 4);
        x = Due.flock("g61......c00b50");
        x.stir(1, 3);
        x.stir(1, 3);
        due.is("the same one, with its cell then", x.mark(0, 3), 4);
        due.last(x, "the same one", 1, 3);
        x.build(4, 2);
        due.is("its cell stays its cell", x.mark(0, 3), 4);
        x = Due.flock("g61.....~c00b40");
        x.stir(1, 1);
        due.is("after a lost one", x.go(1), 1);
        due.is("then it is the LAST itself", x.go(1), 0);
        due.cells(x, "after a lost one", 1, Due.NONE);
    }

    private static void lost() {
        LastStirred x = Due.flock("g51.~...b00b40");
        x.stir(1, 3);
        due.is("into the water", x.go(1), 1);
        due.cells(x, "into the water", Due.NONE, 3);
        due.last(x, "into the water", 0, 1);
        due.tells(x, "a cell that it went", x.beast(0, 2), 1, 1);
        due.is("after the lost one", x.go(1), 2);
        due.is("1 off", x.go(1), 0);
        due.cells(x, "after the lost one", Due.NONE, 2);
    }

    private static void promise18() {
        LastStirred x = new LastStirred();
        due.is("go(-1)", x.go(-1), Due.BAD);
        due.is("go(41)", x.go(41), Due.BAD);
        due.is("go(0), no ground", x.go(0), Due.STATE);
        due.is("go(40), no ground", x.go(40), Due.STATE);
        x = Due.flock("g61......b00b50");
        due.is("no LAST", x.go(40), 0);
        due.is("40 steps", x.count(3), 40);
        x.stir(1, 3);
        due.is("go(0)", x.go(0), 0);
        due.is("go(2): the last of them", x.go(2), 2);
        due.is("42 steps", x.count(3), 42);
        due.is("go(40): none in the last", x.go(40), 0);
        for (int i = 82; i + 40 <= 9999; i += 40) x.go(40);
        due.is("9962 steps", x.count(3), 9962);
        due.is("go(39)", x.go(39), Due.SPENT);
        due.is("go(38)", x.go(38), 0);
        due.is("10000 steps", x.count(3), 10000);
        due.is("go(1)", x.go(1), Due.SPENT);
        due.is("go(41), BAD first", x.go(41), Due.BAD);
        due.is("go(0)", x.go(0), 0);
        due.is("run()", x.run(), Due.SPENT);
        due.tells(x, "ring(), though", x.ring(), 2, 2);
        due.is("worth, though", x.worth(0, 0), Due.STATE);
        due.is("a ground anew", x.ground(0), 2);
        due.is("go(1)", x.go(1), 0);
        towards();
        oneBehindTheOther();
        away();
        slowAndLame();
        chaser();
        lost();
    }

    private static void promise19() {
        LastStirred x = new LastStirred();
        due.is("run(), no ground", x.run(), Due.STATE);
        due.is("asked() stays", x.asked(), 0);
        x = Due.flock("g21..");
        due.tells(x, "no beasts", x.run(), 2, 1);
        x = Due.flock("g61......b00b50");
        due.tells(x, "no LAST", x.run(), 2, 1);
        due.is("2 steps", x.count(3), 2);
        x.stir(1, 3);
        due.tells(x, "3 steps go, 2 do not", x.run(), 5, 1);
        due.is("7 steps", x.count(3), 7);
        x.go(2);
        due.tells(x, "two steps of its own", x.run(), 2, 1);
        x = Due.flock("g51.....l00b40");
        x.go(1);
        x.stir(1, 3);
        due.tells(x, "one step still, then on", x.run(), 5, 1);
        x = Due.flock(ROUND);
        x.stir(1, 3);
        due.tells(x, "they never stand", x.run(), 40, 0);
        due.is("40 steps", x.count(3), 40);
        for (int i = 1; i < 249; i++) x.run();
        due.is("9960 steps", x.count(3), 9960);
        due.tells(x, "run()", x.run(), 40, 0);
        due.is("10000 steps", x.count(3), 10000);
        x = Due.flock("g21..b00");
        for (int i = 0; i < 249; i++) x.go(40);
        due.is("9960 steps", x.count(3), 9960);
        due.tells(x, "run() behind 9960", x.run(), 2, 1);
        due.is("run() behind 9962", x.run(), Due.SPENT);
        due.is("9962 steps", x.count(3), 9962);
    }

    private static void promise20() {
        LastStirred x = new LastStirred();
        due.is("ring(), no ground", x.ring(), Due.STATE);
        x = Due.flock("g61......b00b50");
        due.tells(x, "none stirred", x.ring(), 2, 2);
        x.stir(1, 3);
        long before = x.digest();
        due.tells(x, "3 steps, then a ring of 2", x.ring(), 5, 2);
        due.is("it stays", x.digest(), before);
        x = Due.flock(ROUND);
        x.stir(1, 3);
        due.tells(x, "1 step, then a ring of 16", x.ring(), 17, 16);
        x.go(1);
        due.tells(x, "a ring of 16", x.ring(), 16, 16);
        x.go(7);
        due.tells(x, "a ring of 16", x.ring(), 16, 16);
        x = Due.flock("g65.#==..=....#........##....#=.=l02m53t21l40");
        x.stir(2, 1);
        due.tells(x, "23 steps, then a ring of 24", x.ring(), 47, 24);
        x = Due.flock("g64......~.=.....#........=b42l21l31");
        x.stir(1, 0);
        due.tells(x, "in all else alike, the first is in another cell", x.ring(), 18, 16);
        // The two grounds on which a lost one would count as one in CELL 23, were NONE cut to five bits.
        x = Due.flock("g55#....................#~..b22m12m44b04");
        x.stir(1, 2);
        due.tells(x, "a lost one is in no cell", x.ring(), 21, 16);
        x = Due.flock("g65....==........#.=....~.......~t21s51c41m03");
        x.stir(0, 0);
        due.tells(x, "a lost one is in no cell", x.ring(), 9, 2);
    }

    private static void promise21() {
        LastStirred x = new LastStirred();
        due.is("where(6)", x.where(6), Due.BAD);
        due.is("where(-1)", x.where(-1), Due.BAD);
        due.is("where(5), no ground", x.where(5), 0);
        due.is("a row of none", x.count(6), 1);
        due.finds(x, "at(5, 0)", x.at(5, 0), Due.BEYOND);
        x = Due.flock("g41.~..b00s20l30");
        Due.row(x, 0, 7, 7, 7, 7, 7);
        due.is("where(0)", x.where(0), 0);
        int[] want = {0, 2, 3};
        for (int k = 0; k < 3; k++) due.tells(x, "at(0, " + k + ")", x.at(0, k), 1, want[k]);
        due.finds(x, "anew, of 3", x.at(0, 3), Due.BEYOND);
        x.stir(0, 1);
        due.is("where(1)", x.where(1), 1);
        due.tells(x, "at(1, 0)", x.at(1, 0), 1, Due.NONE);
        due.tells(x, "at(1, 1)", x.at(1, 1), 1, 2);
        due.tells(x, "at(0, 0), as it was", x.at(0, 0), 1, 0);
        x.stir(1, 3);
        due.is("where(1), two lost", x.where(1), 2);
        x = Due.flock("g41....b30s20l10m00");
        due.is("four", x.where(0), 0);
        for (int k = 0; k < 4; k++) due.tells(x, "at(0, " + k + ")", x.at(0, k), 1, 3 - k);
    }

    private static void promise22() {
        due.is("no ground", new LastStirred().apart(), 0);
        due.is("one", Due.flock("g21..b00").apart(), 0);
        due.is("two", Due.flock("g33.........b00b22").apart(), 4);
        LastStirred x = Due.flock("g33.....~...b00b22s20");
        due.is("three: 4, 2, 2", x.apart(), 8);
        x.stir(2, 2);
        due.is("one is lost", x.apart(), 4);
        x.stir(1, 0);
        due.is("two are lost", x.apart(), 0);
        due.is("four", Due.flock("g65..............................b00s50l04c54").apart(), 5 + 4 + 9 + 9 + 4 + 5);
    }

    private static void promise23() {
        LastStirred x = new LastStirred();
        due.is("keep(3), no ground", x.keep(3), Due.BAD);
        due.is("keep(-1), no ground", x.keep(-1), Due.BAD);
        due.is("keep(0), no ground", x.keep(0), Due.STATE);
        x = Due.flock("g61......b00b50");
        due.is("keep(0)", x.keep(0), 0);
        due.is("keep(3)", x.keep(3), Due.BAD);
        due.is("one is kept", x.count(5), 1);
        x.go(7);
        due.is("keep(0) again", x.keep(0), 7);
        due.is("still one is kept", x.count(5), 1);
        due.is("keep(2)", x.keep(2), 7);
        due.is("two are kept", x.count(5), 2);
        due.is("a ground without beasts", Due.flock("g21..").keep(1), 0);
    }

    private static void promise24() {
        LastStirred x = Due.flock("g61......b00c50");
        due.finds(x, "on(0)", x.on(0), Due.NOTHING);
        due.is("on(3)", x.on(3), Due.BAD);
        due.is("on(-1)", x.on(-1), Due.BAD);
        x.stir(0, 1);
        x.stir(1, 3);
        x.go(1);
        x.keep(0);
        long kept = x.digest();
        x.stir(0, 3);
        x.run();
        due.is("on(0)", x.on(0), 1);
        due.is("all is as it was kept", x.digest(), kept);
        x.stir(0, 3);
        x.run();
        x.keep(1);
        x.go(1);
        due.is("on(0)", x.on(0), 1);
        due.cells(x, "on(0)", 2, 4);
        due.last(x, "on(0)", 0, 2);
        due.is("the LAST BUT ONE", x.mark(1, 3), 4);
        due.tells(x, "what it went", x.beast(0, 2), 1, 2);
        due.is("on(1)", x.on(1), 5);
        due.is("on(0), again", x.on(0), 1);
        x.build(2, 3);
        due.is("on(0)", x.on(0), 1);
        due.tells(x, "the signs are not kept", x.cell(2), 3, 0);
        keptUnderWall();
    }

    private static void keptUnderWall() {
        LastStirred x = Due.flock("g41....b00b20");
        x.keep(2);
        x.stir(0, 1);
        x.build(0, 1);
        due.is("on(2), where a WALL is by now", x.on(2), 0);
        due.tells(x, "a beast in a WALL", x.cell(0), 1, 0);
        due.is("it can stir out of it", x.stir(0, 1), 1);
        due.is("but not back", x.stir(0, 3), Due.STATE);
        x.build(0, 2);
        x.on(2);
        due.tells(x, "a beast in WATER", x.cell(0), 2, 0);
        due.is("it is not lost", x.count(2), 0);
        due.is("and no WALL may be built there", x.build(0, 1), Due.STATE);
    }

    public static void main(String[] args) {
        promise17();
        promise18();
        promise19();
        promise20();
        promise21();
        promise22();
        promise23();
        promise24();
        due.end();
    }
}
