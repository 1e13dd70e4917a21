/** Promises 32 to 37. */
public final class WallsAndWolvesTest {
    private static final Due due = new Due("walls, wolves, dusk and dawn, breeds");

    private static void promise32() {
        due.is("reach(0, 1), no ground", new LastStirred().reach(0, 1), Due.BAD);
        LastStirred x = Due.flock("g51.=..#b20");
        due.is("reach(0, 1)", x.reach(0, 1), 15);
        due.is("reach(0, 0)", x.reach(0, 0), 1);
        due.is("reach(1, 0), from a gate", x.reach(1, 0), 15);
        due.is("reach(2, 0), a beast is no wall", x.reach(2, 0), 12);
        due.is("reach(4, 1), from a wall", x.reach(4, 1), 0);
        due.is("reach(0, 2)", x.reach(0, 2), Due.BAD);
        due.is("reach(0, -1)", x.reach(0, -1), Due.BAD);
        due.is("reach(5, 1)", x.reach(5, 1), Due.BAD);
        due.is("reach(-1, 1)", x.reach(-1, 1), Due.BAD);
        x = Due.flock("g31.~o");
        due.is("up to water", x.reach(0, 1), 1);
        due.is("from water", x.reach(1, 1), 0);
        due.is("from the fold", x.reach(2, 0), 4);
        due.is("from one gate not into another one", Due.flock("g41.==.").reach(1, 0), 3);
        due.is("lines do not go over into each other", Due.flock("g22#..#").reach(1, 1), 2);
        due.is("all of the greatest ground", Due.flock("g65..............................").reach(29, 0), (1 << 30) - 1);
        String snake = ".....####......####.....";
        x = Due.flock("g55" + snake + ".");
        int all = 1 << 24;
        for (int c = 0; c < 24; c++) all |= snake.charAt(c) == '.' ? 1 << c : 0;
        due.is("a snake, from its head", x.reach(0, 0), all);
        due.is("a snake, from its tail", x.reach(24, 0), all);
    }

    private static void promise33() {
        LastStirred x = new LastStirred();
        x.row(0, 1);
        x.lay(0, 0, 5);
        x.at(0, 0);
        due.tells(x, "never(), no ground", x.never(), 0, Due.NONE);
        x = Due.flock("g51..#..b00b10b30s40");
        due.tells(x, "four pairs", x.never(), 4, 2);
        x.build(2, 4);
        due.tells(x, "a gate is a way", x.never(), 0, Due.NONE);
        x.build(2, 2);
        due.tells(x, "water is none", x.never(), 4, 2);
        due.is("a gate is a way for a LAME one too", Due.flock("g31.=.m00b20").never(), 0);
        x = Due.flock("g61~..#..b10b20b40");
        due.tells(x, "two pairs", x.never(), 2, 2);
        x.stir(0, 3);
        due.tells(x, "the lost one aside", x.never(), 1, 12);
        x.stir(1, 3);
        x.stir(1, 3);
        due.tells(x, "one is left", x.never(), 0, Due.NONE);
        x = Due.flock("g41....b00b10s30");
        x.keep(0);
        x.stir(1, 1);
        x.build(1, 1);
        x.on(0);
        due.tells(x, "one is in a wall", x.never(), 3, 1);
    }

    private static void wolf(String ground, int c, int n, int want, int asked) {
        LastStirred x = Due.flock(ground);
        long before = x.digest();
        due.tells(x, "wolf(" + c + ", " + n + ") on " + ground, x.wolf(c, n), want, asked);
        due.is("it stays", x.digest(), before);
    }

    private static void promise34() {
        due.is("wolf(0, 1), no ground", new LastStirred().wolf(0, 1), Due.BAD);
        LastStirred x = Due.flock("g41.#~.b00");
        due.is("wolf(1, 1), a wall", x.wolf(1, 1), Due.BAD);
        due.is("wolf(2, 1), water", x.wolf(2, 1), Due.BAD);
        due.is("wolf(4, 1)", x.wolf(4, 1), Due.BAD);
        due.is("wolf(-1, 1)", x.wolf(-1, 1), Due.BAD);
        due.is("wolf(3, 0)", x.wolf(3, 0), Due.BAD);
        due.is("wolf(3, 3)", x.wolf(3, 3), Due.BAD);
        due.is("wolf(0, 3): BAD comes first", x.wolf(0, 3), Due.BAD);
        due.is("wolf(0, 1), a beast", x.wolf(0, 1), Due.STATE);
        due.is("asked() stays", x.asked(), 0);
        wolf("g21..b00", 1, 1, 0, Due.NONE);
        wolf("g21oob00", 1, 1, 0, Due.NONE);
        wolf("g21..", 1, 2, 1, Due.NONE);
        wolf("g31...b00", 2, 1, 1, Due.NONE);
        wolf("g31...b00", 2, 2, 0, Due.NONE);
        wolf("g31.=.b00", 2, 1, 1, Due.NONE);
        wolf("g31.=.b00", 2, 2, 0, Due.NONE);
        wolf("g31.#.b00", 2, 2, 1, Due.NONE);
        wolf("g31.~.b00", 2, 2, 1, Due.NONE);
        wolf("g22....b00", 1, 1, 1, 2);
        wolf("g22....b00", 2, 1, 1, 1);
        wolf("g22....b11", 1, 1, 1, 3);
        wolf("g22....b11", 2, 1, 1, 0);
        wolf("g22....b00", 3, 1, 1, Due.NONE);
        wolf("g22....b00", 3, 2, 1, Due.NONE);
        wolf("g22....b00", 1, 2, 1, 2);
        wolf("g31~..b10", 2, 1, 0, Due.NONE);
        wolf("g41....b10b20", 0, 1, 1, 5);
        x = Due.flock("g31~..b10");
        x.stir(0, 3);
        due.tells(x, "a lost one cannot be eaten", x.wolf(1, 2), 1, Due.NONE);
        x = Due.flock("g41~...b10b30");
        x.stir(0, 3);
        x.cell(3);
        due.tells(x, "one is lost by now, the other is eaten", x.wolf(2, 1), 0, Due.NONE);
    }

    private static void dawn(LastStirred x, int r, int want, int asked, int who, int ways) {
        long before = x.digest();
        x.never();
        int told = want == Due.NONE ? x.asked() : asked;
        due.tells(x, "dawn(" + r + ")", x.dawn(r), want, told);
        x.never();
        told = who == Due.NONE ? x.asked() : ways;
        due.tells(x, "who(" + r + ")", x.who(r), who, told);
        due.is("it stays", x.digest(), before);
    }

    private static void promises35And36() {
        LastStirred x = new LastStirred();
        due.is("dawn(6)", x.dawn(6), Due.BAD);
        due.is("who(6)", x.who(6), Due.BAD);
        due.is("dawn(-1)", x.dawn(-1), Due.BAD);
        due.is("who(-1)", x.who(-1), Due.BAD);
        due.finds(x, "dawn(0), no row", x.dawn(0), Due.NOTHING);
        due.finds(x, "who(0), no row", x.who(0), Due.NOTHING);
        x.row(0, 0);
        dawn(x, 0, 0, 1, Due.NONE, 0);
        Due.row(x, 0, -8);
        due.finds(x, "dawn(0), one too many", x.dawn(0), Due.SIZE);
        due.finds(x, "who(0), one too many", x.who(0), Due.SIZE);
        x = Due.flock("g22....b00");
        int[] none = {4, -1, -8, -10, Integer.MAX_VALUE};
        for (int c : none) {
            Due.row(x, 0, c);
            due.finds(x, "dawn(0), no cell", x.dawn(0), Due.UNLIKE);
            due.finds(x, "who(0), no cell", x.who(0), Due.UNLIKE);
        }
        Due.row(x, 0, 0);
        dawn(x, 0, 0, 1, Due.NONE, 0);
        Due.row(x, 0, 1);
        dawn(x, 0, 1, 1, 1, 2);
        Due.row(x, 0, 2);
        dawn(x, 0, 1, 1, 1, 4);
        Due.row(x, 0, 3);
        dawn(x, 0, 2, 2, 1, 6);
        Due.row(x, 0, -9);
        dawn(x, 0, Due.NONE, 0, Due.NONE, 0);
        x = Due.flock("g41....b00");
        Due.row(x, 5, 2);
        dawn(x, 5, 2, 1, 1, 2);
        Due.row(x, 5, 3);
        dawn(x, 5, Due.NONE, 0, Due.NONE, 0);
        x = Due.flock("g21.~b00");
        Due.row(x, 0, -9);
        dawn(x, 0, 1, 1, 1, 2);
        x = Due.flock("g41....b00b30");
        Due.row(x, 0, 1, 2);
        dawn(x, 0, 1, 2, 3, 10);
        Due.row(x, 0, 2, 1);
        dawn(x, 0, Due.NONE, 0, Due.NONE, 0);
        Due.row(x, 0, 1, 1);
        dawn(x, 0, Due.NONE, 0, Due.NONE, 0);
        Due.row(x, 0, 2, 3);
        dawn(x, 0, 2, 2, 3, 10);
        Due.row(x, 0, 0, 2);
        x.build(1, 1);
        dawn(x, 0, 1, 1, 2, 8);
        Due.row(x, 0, 1);
        due.finds(x, "dawn(0), one too few", x.dawn(0), Due.SIZE);
        Due.row(x, 0, 1, 2, 77);
        due.finds(x, "dawn(0), SIZE ahead of UNLIKE", x.dawn(0), Due.SIZE);
    }

    private static void promise37() {
        LastStirred x = new LastStirred();
        due.is("breed(6), no ground", x.breed(6), Due.BAD);
        due.is("breed(-1), no ground", x.breed(-1), Due.BAD);
        due.is("breed(0), no ground", x.breed(0), Due.STATE);
        for (int kind = 0; kind < 6; kind++) {
            due.is("safe by now", Due.flock("g21oob00").breed(kind), 0);
            due.is("one drive", Due.flock("g21.ob00").breed(kind), 1);
            due.is("two drives", Due.flock("g31..ob00").breed(kind), 2);
            due.is("three drives", Due.flock("g41...ob00").breed(kind), Due.NONE);
            due.is("by a gate, " + kind, Due.flock("g31.=om00").breed(kind), kind == 4 ? Due.NONE : 2);
            due.is("no beasts", Due.flock("g21oo").breed(kind), Due.NONE);
        }
        x = Due.flock("g51ooo..s10m30");
        long before = x.digest();
        int[] want = {1, 2, 1, 1, 1, 2};
        for (int kind = 0; kind < 6; kind++) due.is("breed(" + kind + ")", x.breed(kind), want[kind]);
        due.is("it stays", x.digest(), before);
        x = Due.flock("g31~.ob10b20");
        x.stir(0, 3);
        due.is("one is lost", x.breed(0), Due.NONE);
    }

    public static void main(String[] args) {
        promise32();
        promise33();
        promise34();
        promises35And36();
        promise37();
        due.end();
    }
}
