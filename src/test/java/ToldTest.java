/** Promises 38 to 44, and the face's constants. */
public final class ToldTest {
    private static final Due due = new Due("what is told");

    private static void constants() {
        due.is("BAD", LastStirred.BAD, -1);
        due.is("FULL", LastStirred.FULL, -2);
        due.is("FINDING", LastStirred.FINDING, -3);
        due.is("STATE", LastStirred.STATE, -4);
        due.is("SPENT", LastStirred.SPENT, -6);
        due.is("NONE", LastStirred.NONE, -9);
    }

    private static void promise38() {
        LastStirred x = new LastStirred();
        due.is("asked(), at first", x.asked(), 0);
        x = Due.flock("g61...ooob00c10");
        Due.row(x, 0, 77);
        x.at(0, 0);
        // None of these tells by asked().
        x.row(1, 1);
        x.tear(1);
        x.copy(0, 0, 0, 0, 1);
        x.text(1, 3);
        x.put(1, 0, 5);
        x.fault(1);
        x.ground(0);
        x.build(2, 0);
        x.mark(1, 3);
        x.stir(1, 1);
        x.go(1);
        x.where(2);
        x.apart();
        x.keep(0);
        x.on(0);
        x.ways(1);
        x.stone(5);
        x.reach(0, 0);
        x.breed(0);
        x.upper();
        x.lower();
        x.count(0);
        x.finding();
        x.findings(1);
        x.digest();
        due.is("asked() stays", x.asked(), 77);
        // Nor do these, refused or NONE.
        x.lay(0, 1, 3);
        x.at(5, 0);
        x.mean(5);
        x.cell(99);
        x.beast(9, 0);
        x.part(0, 0);
        x.worth(0, 0);
        x.drive(5);
        x.wolf(99, 1);
        x.dawn(5);
        x.who(5);
        x.where(2);
        due.is("who, 0 DRIVES", x.who(2), Due.NONE);
        x.lay(2, 0, 5);
        x.at(0, 0);
        due.is("dawn, too far", x.dawn(2), Due.NONE);
        due.is("who, too far", x.who(2), Due.NONE);
        x.where(2);
        due.is("asked() stays, still", x.asked(), 77);
        due.tells(x, "lay", x.lay(0, 0, 5), 1, 77);
        due.tells(x, "mean", x.mean(0), 1, 5);
        due.tells(x, "cell", x.cell(0), 0, Due.NONE);
        due.tells(x, "beast", x.beast(1, 0), 1, 3);
        due.tells(x, "last", x.last(), 0, 1);
        due.tells(x, "dawn", x.dawn(2), 0, 1);
    }

    private static void promises39And40() {
        LastStirred x = Due.flock("g33.o.o.....b11");
        due.is("upper(), before", x.upper(), 0);
        due.is("lower(), before", x.lower(), 1);
        x.ways(1);
        due.is("upper()", x.upper(), 1);
        due.is("lower()", x.lower(), 2);
        x.ways(3);
        x.build(5, 3);
        due.is("upper(), till told anew", x.upper(), 1);
        due.is("lower(), till told anew", x.lower(), 2);
        x.ways(1);
        due.is("upper()", x.upper(), 3);
        due.is("lower()", x.lower(), 4);
        x.ways(2);
        due.is("upper(), nought", x.upper(), 0);
        due.is("lower(), nought", x.lower(), 1);
    }

    private static void promise41() {
        LastStirred x = new LastStirred();
        due.is("count(8)", x.count(8), Due.BAD);
        due.is("count(-1)", x.count(-1), Due.BAD);
        Due.write(x, 0, "g52~.........s10t20b30l40");
        Due.write(x, 3, "g");
        x.ground(0);
        x.go(9);
        x.keep(1);
        x.keep(2);
        x.row(1, 3);
        x.row(2, 0);
        x.row(5, 1);
        x.row(2, 4);
        int[] want = {10, 4, 0, 9, 2, 2, 3, 2};
        for (int what = 0; what < 8; what++) due.is("count(" + what + ")", x.count(what), want[what]);
        x.stir(0, 3);
        due.is("one is lost", x.count(2), 1);
        due.is("all are beasts still", x.count(1), 4);
        due.is("a lost SHY one is one still", x.count(4), 2);
        x.tear(1);
        due.is("a row is torn", x.count(6), 2);
    }

    private static void promises42And43() {
        LastStirred x = new LastStirred();
        due.is("finding(), before", x.finding(), 0);
        due.is("findings(0)", x.findings(0), Due.BAD);
        due.is("findings(6)", x.findings(6), Due.BAD);
        due.is("findings(-1)", x.findings(-1), Due.BAD);
        int[] often = new int[6];
        Due.write(x, 0, "g21..s00b10");
        x.ground(0);
        x.row(0, 0);
        for (int i = 0; i < 15; i++) {
            int f = i % 7 % 5 + 1;
            switch (f) {
                case 1 -> x.at(1, 0);
                case 2 -> x.at(0, 0);
                case 3 -> x.mark(0, 2);
                case 4 -> x.mean(0);
                default -> x.row(0, -1);
            }
            often[f]++;
            due.is("finding()", x.finding(), f);
            for (int g = 1; g < 6; g++) due.is("findings(" + g + ")", x.findings(g), often[g]);
            x.row(9, 9);
            x.stir(0, 1);
            x.count(1);
            due.is("finding() stays by others", x.finding(), f);
        }
    }

    private static long sum(int... all) {
        long h = 17;
        for (int v : all) h = 31 * h + v;
        return h;
    }

    private static void promise44() {
        LastStirred x = new LastStirred();
        due.is("digest(), new", x.digest(), sum(0, 0, 0, 0, 0, 0, 0, 0, -9, -9, -9, -9, -1, -1, -1,
                -1, -1, -1, -1, -1, -1, -1, -1, -1, -1));
        Due.write(x, 1, "g41.~=os00c30");
        x.ground(1);
        x.build(0, 3);
        Due.row(x, 2, 5, -6);
        x.row(4, 0);
        x.text(3, 2);
        x.put(3, 1, -7);
        x.go(3);
        x.keep(0);
        x.go(2);
        x.keep(2);
        x.stir(1, 3);
        x.stir(0, 1);
        x.go(1);
        due.tells(x, "where the chaser is", x.beast(1, 1), 1, 2);
        due.is("digest()", x.digest(), sum(4, 2, 1, 6, 1, 2, 2, 2, 3, 2, 4, 3,
                1, -9, 1, 3, 2, 1, 0, 1, 1, 2, 3, -1, 5,
                -1, -1, 2, 5, -6, -1, 0, -1,
                -1, 13, 'g', '4', '1', '.', '~', '=', 'o', 's', '0', '0', 'c', '3', '0', -1, 2, 32, -7));
        due.is("asked() stays", x.asked(), 2);
        long before = x.digest();
        x.finding();
        x.at(0, 0);
        due.is("findings are not in it", x.digest(), before);
    }

    public static void main(String[] args) {
        constants();
        promise38();
        promises39And40();
        promise41();
        promises42And43();
        promise44();
        due.end();
    }
}
