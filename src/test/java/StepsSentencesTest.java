import java.io.IOException;

/** The sentences of promises 17 to 24 that name a boundary case. */
public final class StepsSentencesTest {
    public static void main(String[] args) throws IOException {
        Sentences s = new Sentences();
        tell(s);
        s.run("StepsSentencesTest");
    }

    static void tell(Sentences s) {
        promise17(s);
        promise18(s);
        promise18Refused(s);
        promise19(s);
        promise20(s);
        promise20Bounds(s);
        promise21(s);
        promise22(s);
        promise23(s);
        promise24(s);
        promise24Refused(s);
    }

    private static void promise17(Sentences s) {
        s.of("Promise 17", "A STIRRING: the CELL in which it is then", due -> {
            due.is("up to CELL 0", Due.flock("g22....b01").stir(0, 0), 0);
            due.is("right to the last CELL", Due.flock("g65" + ".".repeat(30) + "b44").stir(0, 1), 29);
            due.is("down", Due.flock("g22....b00").stir(0, 2), 2);
            due.is("left to CELL 0", Due.flock("g21..b10").stir(0, 3), 0);
        });
        s.of("Promise 17", "(LOST by it: that of the WATER)", due -> {
            LastStirred x = Due.flock("g31.~.b00b20");
            due.is("LOST", x.stir(0, 1), 1);
            due.cells(x, "LOST", Due.NONE, 2);
            due.is("another one, in the same WATER", x.stir(1, 3), 1);
            due.is("in CELL 0", Due.flock("g21~.b10").stir(0, 3), 0);
        });
        s.of("Promise 17", "BAD", due -> {
            LastStirred x = Due.flock("g33.........b11");
            for (int k : new int[] {-1, 1, 4, Due.LEAST, Due.MOST}) {
                due.is("stir(" + k + ", 0)", x.stir(k, 0), Due.BAD);
            }
            for (int w : new int[] {-1, 4, Due.LEAST, Due.MOST}) {
                due.is("stir(0, " + w + ")", x.stir(0, w), Due.BAD);
            }
            due.cells(x, "BAD", 4);
            due.is("no GROUND", new LastStirred().stir(0, 0), Due.BAD);
            due.is("no BEASTS", Due.flock("g21..").stir(0, 0), Due.BAD);
        });
        s.of("Promise 17", "STATE: it is LOST, or it CAN't", due -> {
            LastStirred x = Due.flock("g32.~....b00b01");
            due.is("off the GROUND", x.stir(0, 3), Due.STATE);
            due.is("another one is there", x.stir(0, 2), Due.STATE);
            x.build(4, 1);
            due.is("a WALL", x.stir(1, 1), Due.STATE);
            due.last(x, "none stirred", Due.NONE, Due.NONE);
            due.is("into WATER it CAN", x.stir(0, 1), 1);
            for (int way = 0; way < 4; way++) due.is("LOST, way " + way, x.stir(0, way), Due.STATE);
            due.last(x, "LOST", 0, 1);
            due.is("a GATE, LAME", Due.flock("g21.=m00").stir(0, 1), Due.STATE);
        });
    }

    private static void promise18(Sentences s) {
        s.of("Promise 18", "n (0 .. 40) STEPS", due -> {
            LastStirred x = Due.flock("g21..");
            int step = 0;
            for (int n = 0; n <= 40; n++) {
                due.is("go(" + n + ")", x.go(n), 0);
                step += n;
                due.is("the STEP", x.count(3), step);
            }
            x = Due.flock("g61......b00b50");
            x.stir(1, 3);
            x.go(3);
            due.cells(x, "3 STEPS", 2, 3);
        });
        s.of("Promise 18", "how many went in the last one (bits; n 0: 0)", due -> {
            LastStirred x = Due.flock("g61......b00b50");
            x.stir(1, 3);
            due.is("go(0)", x.go(0), 0);
            due.cells(x, "go(0)", 0, 4);
            due.is("go(1): BEAST 0", x.go(1), 1);
            due.is("go(1): BEAST 1", x.go(1), 2);
            due.is("go(0), though one went last", x.go(0), 0);
            x.ground(0);
            x.stir(1, 3);
            due.is("go(2): only in the last one", x.go(2), 2);
            due.is("go(2): none in the last one", x.go(2), 0);
            x = Due.flock("g45....................b00b02b04b32");
            x.stir(3, 0);
            due.is("three go", x.go(1), 7);
        });
    }

    private static void promise18Refused(Sentences s) {
        s.of("Promise 18", "BAD", due -> {
            LastStirred x = Due.flock("g21..b00");
            for (int n : new int[] {-1, 41, Due.LEAST, Due.MOST}) due.is("go(" + n + ")", x.go(n), Due.BAD);
            due.is("no STEP", x.count(3), 0);
        });
        s.of("Promise 18", "STATE: no GROUND", due -> {
            LastStirred x = new LastStirred();
            due.is("go(0)", x.go(0), Due.STATE);
            due.is("go(40)", x.go(40), Due.STATE);
            due.is("go(1), no BEASTS", Due.flock("g21..").go(1), 0);
        });
        s.of("Promise 18", "SPENT: STEP 10000 would be passed", due -> {
            LastStirred x = Due.flockAt("g61......b00b50", 9961);
            x.stir(1, 3);
            due.is("9961 and 40", x.go(40), Due.SPENT);
            due.is("none of them was done", x.count(3), 9961);
            due.cells(x, "none of them", 0, 4);
            due.is("9961 and 39", x.go(39), 0);
            due.is("STEP 10000", x.count(3), 10000);
            due.is("10000 and 1", x.go(1), Due.SPENT);
            due.is("10000 and 0", x.go(0), 0);
            x = Due.flockAt("g21..", 9960);
            due.is("9960 and 40", x.go(40), 0);
            due.is("STEP 10000", x.count(3), 10000);
            x.ground(0);
            due.is("a GROUND anew", x.go(1), 0);
        });
    }

    private static void promise19(Sentences s) {
        s.of("Promise 19", "A RUN: how many STEPS", due -> {
            LastStirred x = Due.flock("g61......b00b50");
            due.is("none goes", x.run(), 2);
            x.stir(1, 3);
            due.is("three STEPS go", x.run(), 5);
            due.is("they are done", x.count(3), 7);
            due.cells(x, "they are done", 2, 3);
            due.is("no BEASTS", Due.flock("g21..").run(), 2);
        });
        s.of("Promise 19", "whether they STAND (1, 0) by asked()", due -> {
            LastStirred x = Due.flock("g22....m10b11m00");
            due.tells(x, "none has stirred", x.run(), 2, 1);
            x.stir(1, 3);
            due.tells(x, "they go round and round", x.run(), 40, 0);
            due.tells(x, "and on", x.run(), 40, 0);
            due.is("STEP 82", x.count(3), 82);
        });
        s.of("Promise 19", "STATE: no GROUND", due -> {
            LastStirred x = new LastStirred();
            due.is("run()", x.run(), Due.STATE);
            due.is("asked() stays", x.asked(), 0);
            due.is("no STEP", x.count(3), 0);
        });
        s.of("Promise 19", "SPENT: behind STEP 9960", due -> {
            LastStirred x = Due.flockAt("g22....m10b11m00", 9960);
            x.stir(1, 3);
            due.tells(x, "at STEP 9960", x.run(), 40, 0);
            due.is("STEP 10000", x.count(3), 10000);
            due.is("at STEP 10000", x.run(), Due.SPENT);
            x = Due.flockAt("g21..b00", 9961);
            due.is("at STEP 9961, though 2 would do", x.run(), Due.SPENT);
            due.is("none was done", x.count(3), 9961);
            due.is("asked() stays", x.asked(), 0);
        });
    }

    private static void ring(Due due, String what, LastStirred x, int steps, int size) {
        due.tells(x, what, x.ring(), steps, size);
    }

    private static LastStirred stirred(String ground, int k, int way) {
        LastStirred x = Due.flock(ground);
        x.stir(k, way);
        return x;
    }

    /** Four SLOW ones for whom all is first again behind 204 STEPS. */
    private static LastStirred farFromItsRing() {
        LastStirred x = stirred("g65#.#======.#.=#==###=.===.==..=l40l51l04l01", 0, 1);
        x.go(1);
        x.stir(3, 2);
        return x;
    }

    private static void promise20(Sentences s) {
        s.of("Promise 20", "from as it is, behind how many STEPS all is first again as it was in an earlier one of these", due -> {
            ring(due, "none goes: all is as it was 2 STEPS ahead", Due.flock("g21..b00"), 2, 2);
            ring(due, "no BEASTS", Due.flock("g21.."), 2, 2);
            LastStirred x = stirred("g61......b00b50", 1, 3);
            ring(due, "three STEPS go", x, 5, 2);
            x.go(1);
            ring(due, "from as it is: two STEPS go", x, 4, 2);
            x.go(2);
            ring(due, "they STAND", x, 2, 2);
        });
        s.of("Promise 20", "(CELLS", due -> {
            ring(due, "alike but for BEAST 0", stirred("g23.....=m02m01m00", 2, 1), 27, 24);
            ring(due, "alike but for BEAST 1", stirred("g42....#=..m30b00m11", 0, 2), 18, 16);
            LastStirred x = stirred("g32......m20m10m00", 0, 2);
            x.stir(1, 1);
            ring(due, "alike but for BEAST 2", x, 25, 24);
            ring(due, "alike but for BEAST 3", stirred("g42........l01b11s21m20", 2, 1), 21, 16);
        });
        s.of("Promise 20", ", LAST,", due -> {
            ring(due, "alike but for the LAST", stirred("g33....#....b22b10t12", 0, 0), 6, 2);
        });
        s.of("Promise 20", "LAST BUT ONE", due -> {
            ring(due, "alike but for the LAST BUT ONE", stirred("g22....l01m11b10", 0, 0), 17, 16);
        });
        s.of("Promise 20", "whether STEPS are even", due -> {
            ring(due, "from an even STEP", Due.flock("g21..l00"), 2, 2);
            ring(due, "from an odd STEP", Due.flockAt("g21..l00", 1), 2, 2);
        });
    }

    private static void promise20Bounds(Sentences s) {
        s.of("Promise 20", "0 .. 200", due -> {
            LastStirred x = farFromItsRing();
            x.go(4);
            ring(due, "behind 200", x, 200, 100);
            x.go(1);
            ring(due, "behind 199", x, 199, 100);
        });
        s.of("Promise 20", "how many STEPS the ring has by asked()", due -> {
            ring(due, "the least", Due.flock("g21..b00"), 2, 2);
            ring(due, "16, one STEP ahead of it", stirred("g22....m10b11m00", 1, 3), 17, 16);
            LastStirred x = farFromItsRing();
            x.go(40);
            x.go(40);
            x.go(30);
            ring(due, "100, in it", x, 100, 100);
        });
        s.of("Promise 20", "NONE: not till then", due -> {
            LastStirred x = farFromItsRing();
            due.tells(x, "behind 204", x.ring(), Due.NONE, 0);
            x.go(3);
            x.apart();
            due.tells(x, "behind 201", x.ring(), Due.NONE, 0);
            x.go(1);
            due.is("behind 200", x.ring(), 200);
        });
        s.of("Promise 20", "(It stays.)", due -> {
            LastStirred x = stirred("g61......b00b50", 1, 3);
            long before = x.digest();
            ring(due, "a ring", x, 5, 2);
            due.is("it stays", x.digest(), before);
            x = farFromItsRing();
            before = x.digest();
            due.is("none", x.ring(), Due.NONE);
            due.is("it stays", x.digest(), before);
            x = Due.flockAt("g21..b00", 10000);
            ring(due, "at STEP 10000", x, 2, 2);
            due.is("it stays", x.count(3), 10000);
        });
        s.of("Promise 20", "STATE: no GROUND", due -> {
            LastStirred x = new LastStirred();
            due.tells(x, "ring()", x.ring(), Due.STATE, 0);
        });
    }

    private static void promise21(Sentences s) {
        s.of("Promise 21", "CELLS of all BEASTS come to a ROW (anew; NONE: LOST)", due -> {
            LastStirred x = Due.flock("g51.~..ob40s00l20m30");
            due.is("where(5), missing ahead", x.where(5), 0);
            due.places(x, 5, 4, 0, 2, 3);
            x.row(0, 60);
            x.lay(0, 59, 7);
            x.stir(1, 1);
            due.is("where(0), of 60 ahead", x.where(0), 1);
            due.places(x, 0, 4, Due.NONE, 2, 3);
            x.row(0, 1);
            x.stir(2, 3);
            due.is("where(0), of one ahead", x.where(0), 2);
            due.places(x, 0, 4, Due.NONE, Due.NONE, 3);
            due.places(x, 5, 4, 0, 2, 3);
            Due.write(x, 0, "g21..");
            x.ground(0);
            due.is("where(0), no BEASTS", x.where(0), 0);
            due.places(x, 0);
            x = new LastStirred();
            due.is("where(0), no GROUND", x.where(0), 0);
            due.places(x, 0);
        });
        s.of("Promise 21", "how many are LOST", due -> {
            LastStirred x = Due.flock("g51.~.~.b00b20b40");
            due.is("none", x.where(0), 0);
            x.stir(0, 1);
            due.is("one", x.where(0), 1);
            x.stir(1, 3);
            x.stir(2, 3);
            due.is("all", x.where(0), 3);
        });
        s.of("Promise 21", "BAD", due -> {
            LastStirred x = Due.flock("g21..b00");
            for (int r : new int[] {-1, 6, Due.LEAST, Due.MOST}) due.is("where(" + r + ")", x.where(r), Due.BAD);
            due.is("no ROW", x.count(6), 0);
        });
    }

    private static void promise22(Sentences s) {
        s.of("Promise 22", "(each two that are not LOST, once) together", due -> {
            due.is("no GROUND", new LastStirred().apart(), 0);
            due.is("no BEASTS", Due.flock("g21..").apart(), 0);
            due.is("one", Due.flock("g21..b10").apart(), 0);
            due.is("two", Due.flock("g65" + ".".repeat(30) + "b00b54").apart(), 9);
            LastStirred x = Due.flock("g41.~..b00b20b30");
            due.is("three: 2, 3, 1", x.apart(), 6);
            x.stir(0, 1);
            due.is("one LOST", x.apart(), 1);
            x.stir(1, 3);
            due.is("two LOST", x.apart(), 0);
            x = Due.flock("g41...~b00b10b20");
            x.stir(2, 1);
            due.is("the greatest one LOST", x.apart(), 1);
            due.is("four: 1, 2, 3, 1, 2, 1", Due.flock("g41....b00b10b20b30").apart(), 10);
        });
    }

    private static void promise23(Sentences s) {
        s.of("Promise 23", "The FLOCK is kept in a place (0 .. 2", due -> {
            LastStirred x = Due.flock("g61......b00b50");
            for (int k = 0; k < 3; k++) {
                due.is("keep(" + k + ")", x.keep(k), k);
                due.is("kept FLOCKS", x.count(5), k + 1);
                x.go(1);
            }
            due.is("keep(0), where one is by now", x.keep(0), 3);
            due.is("kept FLOCKS", x.count(5), 3);
            for (int k = 0; k < 3; k++) due.is("on(" + k + ")", x.on(k), k == 0 ? 3 : k);
            due.is("keep(2), of no BEASTS", Due.flock("g21..").keep(2), 0);
        });
        s.of("Promise 23", "CELLS' signs not)", due -> {
            LastStirred x = Due.flock("g31.#ob00");
            x.keep(0);
            x.build(1, 4);
            x.build(2, 0);
            x.on(0);
            due.is("a GATE since", x.cell(1), 4);
            due.is("GRASS since", x.cell(2), 0);
        });
        s.of("Promise 23", "its STEP", due -> {
            LastStirred x = Due.flock("g21..b00");
            due.is("at STEP 0", x.keep(0), 0);
            Due.goTo(x, 10000);
            due.is("at STEP 10000", x.keep(1), 10000);
        });
        s.of("Promise 23", "BAD", due -> {
            LastStirred x = Due.flock("g21..b00");
            for (int k : new int[] {-1, 3, Due.LEAST, Due.MOST}) due.is("keep(" + k + ")", x.keep(k), Due.BAD);
            due.is("none is kept", x.count(5), 0);
        });
        s.of("Promise 23", "STATE: no GROUND", due -> {
            LastStirred x = new LastStirred();
            for (int k = 0; k < 3; k++) due.is("keep(" + k + ")", x.keep(k), Due.STATE);
            due.is("none is kept", x.count(5), 0);
        });
    }

    private static void promise24(Sentences s) {
        s.of("Promise 24", "The FLOCK is as it was kept in a place", due -> {
            LastStirred x = Due.flock("g61..~...c00b10b30b50");
            x.stir(3, 3);
            x.stir(1, 1);
            x.go(1);
            x.keep(2);
            long kept = x.digest();
            int aim = x.mark(0, 3);
            x.stir(2, 1);
            x.go(4);
            due.is("on(2)", x.on(2), 1);
            due.is("all is as it was", x.digest(), kept);
            due.is("the CHASER's AIM", x.mark(0, 3), aim);
            x.stone(4);
            x.run();
            due.is("on(2) again", x.on(2), 1);
            due.is("all is as it was, again", x.digest(), kept);
            x = Due.flock("g21.~b00");
            x.keep(0);
            x.stir(0, 1);
            x.keep(1);
            x.on(0);
            due.cells(x, "not LOST as yet", 0);
            due.last(x, "none has stirred as yet", Due.NONE, Due.NONE);
            x.on(1);
            due.cells(x, "LOST", Due.NONE);
            due.last(x, "LOST", 0, 1);
        });
        s.of("Promise 24", "(also where a WALL, WATER is by now)", due -> {
            LastStirred x = Due.flock("g41....b00b30");
            x.keep(0);
            x.stir(0, 1);
            x.stir(1, 3);
            due.is("a WALL", x.build(0, 1), 0);
            due.is("WATER", x.build(3, 2), 0);
            due.is("on(0)", x.on(0), 0);
            due.cells(x, "on(0)", 0, 3);
            due.tells(x, "in a WALL", x.cell(0), 1, 0);
            due.tells(x, "in WATER", x.cell(3), 2, 1);
            due.is("none is LOST", x.count(2), 0);
            due.is("both are counted", x.apart(), 3);
            due.is("out of WATER", x.stir(1, 3), 2);
            due.is("out of a WALL, by a STEP", x.go(1), 1);
            due.is("not back into it", x.stir(0, 3), Due.STATE);
        });
        s.of("Promise 24", "its STEP", due -> {
            LastStirred x = Due.flock("g21..b00");
            x.keep(0);
            Due.goTo(x, 10000);
            x.keep(1);
            due.is("STEP 0", x.on(0), 0);
            due.is("count(3)", x.count(3), 0);
            due.is("go(40)", x.go(40), 0);
            due.is("STEP 10000", x.on(1), 10000);
            due.is("go(1)", x.go(1), Due.SPENT);
        });
    }

    private static void promise24Refused(Sentences s) {
        s.of("Promise 24", "BAD", due -> {
            LastStirred x = Due.flock("g21..b00");
            x.keep(0);
            x.keep(2);
            for (int k : new int[] {-1, 3, Due.LEAST, Due.MOST}) due.is("on(" + k + ")", x.on(k), Due.BAD);
        });
        s.of("Promise 24", "NOTHING", due -> {
            LastStirred x = new LastStirred();
            for (int k = 0; k < 3; k++) due.finds(x, "on(" + k + "), no GROUND", x.on(k), Due.NOTHING);
            x = Due.flock("g21..b00");
            x.keep(1);
            due.finds(x, "on(0), another one is kept", x.on(0), Due.NOTHING);
            due.finds(x, "on(2), another one is kept", x.on(2), Due.NOTHING);
            due.is("on(1)", x.on(1), 0);
            x.ground(0);
            due.finds(x, "on(1), a GROUND anew", x.on(1), Due.NOTHING);
        });
    }
}
