import java.io.IOException;
import java.util.List;
import java.util.function.IntSupplier;

/** The sentences under "What it is" and "Terms" that name a boundary case. */
public final class TermsSentencesTest {
    private static final String TERMS = "Terms";

    public static void main(String[] args) throws IOException {
        Sentences s = new Sentences();
        tell(s);
        s.run("TermsSentencesTest");
    }

    static void tell(Sentences s) {
        answers(s);
        findings(s);
        toldApart(s);
        rowsAndTexts(s);
        grounds(s);
        beasts(s);
        faults(s);
        kinds(s);
        theLast(s);
        can(s);
        steps(s);
        towards(s);
        away(s);
        stirrings(s);
        runs(s);
    }

    // ---- answers

    private static void answers(Sentences s) {
        s.of("What it is", "An object is used for at most 512 calls after it has been made", due -> {
            LastStirred x = new LastStirred();
            x.row(5, 0);
            for (int i = 0; i < 509; i++) due.is("mean(5) of none", x.mean(5), Due.FINDING);
            due.is("the 511th call, findings(4)", x.findings(4), 509);
            due.is("the 512th call, row(0, 60)", x.row(0, 60), 60);
        });
        s.of(TERMS, "Refused is, the first of these that fits, in this order", due -> {
            LastStirred x = new LastStirred();
            due.is("BAD ahead of STATE: go(41), no GROUND", x.go(41), Due.BAD);
            due.is("BAD ahead of STATE: go(-1), no GROUND", x.go(-1), Due.BAD);
            due.is("BAD ahead of STATE: keep(3), no GROUND", x.keep(3), Due.BAD);
            due.is("BAD ahead of STATE: breed(6), no GROUND", x.breed(6), Due.BAD);
            due.is("BAD ahead of STATE: drive(6), no GROUND", x.drive(6), Due.BAD);
            due.is("BAD ahead of FINDING: row(6, -1)", x.row(6, -1), Due.BAD);
            due.is("BAD ahead of FINDING: text(4, -1)", x.text(4, -1), Due.BAD);
            due.is("BAD ahead of FINDING: copy(0, 0, 6, 0, -1)", x.copy(0, 0, 6, 0, -1), Due.BAD);
            due.is("STATE ahead of FINDING: drive(0), no GROUND, no ROW", x.drive(0), Due.STATE);
            due.is("finding(): there was none", x.finding(), 0);
            x = Due.flockAt("g31.~.b00b20", 10000);
            due.is("BAD ahead of SPENT: go(41) at STEP 10000", x.go(41), Due.BAD);
            due.is("BAD ahead of STATE: wolf(0, 3), a BEAST is there", x.wolf(0, 3), Due.BAD);
            due.is("BAD ahead of FINDING: mark(0, 6), of no such KIND", x.mark(0, 6), Due.BAD);
            x.stir(0, 1);
            due.is("BAD ahead of STATE: stir(0, 4), it is LOST", x.stir(0, 4), Due.BAD);
            due.is("BAD ahead of STATE: worth(0, 4), it is LOST", x.worth(0, 4), Due.BAD);
        });
        s.of(TERMS, "NONE -9 (a ROW that something was to come to stays as it is then)", due -> {
            LastStirred x = Due.flock("g51.....b00b40");
            Due.row(x, 0, 4, 0);
            due.is("dawn(0), that can't be", x.dawn(0), Due.NONE);
            due.is("who(0), that can't be", x.who(0), Due.NONE);
            due.is("gather()", x.gather(), 1);
            due.places(x, 0, 4, 0);
            x.where(1);
            due.is("who(1), 0 DRIVES", x.who(1), Due.NONE);
            due.places(x, 1, 0, 4);
            due.is("two ROWS", x.count(6), 2);
        });
        s.of(TERMS, "What is refused changes nothing but finding(), findings()", TermsSentencesTest::refused);
    }

    /** All that is told, but of findings. */
    private static List<Long> look(LastStirred x) {
        return List.of((long) x.asked(), x.upper(), x.lower(), x.digest());
    }

    private static void stays(Due due, LastStirred x, String call, IntSupplier refused) {
        List<Long> before = look(x);
        int answer = refused.getAsInt();
        due.is(call + " is refused", answer < 0 && answer != Due.NONE ? 1 : 0, 1);
        due.is(call + " changes nothing", look(x).equals(before) ? 1 : 0, 1);
    }

    private static void refused(Due due) {
        LastStirred n = new LastStirred();
        stays(due, n, "go(1), no GROUND", () -> n.go(1));
        stays(due, n, "run(), no GROUND", n::run);
        stays(due, n, "ring(), no GROUND", n::ring);
        stays(due, n, "keep(0), no GROUND", () -> n.keep(0));
        stays(due, n, "fewest(), no GROUND", n::fewest);
        stays(due, n, "breed(0), no GROUND", () -> n.breed(0));
        stays(due, n, "drive(0), no GROUND", () -> n.drive(0));
        stays(due, n, "where(6)", () -> n.where(6));
        stays(due, n, "tear(0), missing", () -> n.tear(0));
        LastStirred x = lively();
        refusedRows(due, x);
        refusedFlock(due, x);
        due.is("the FLOCK kept in 0: its STEP", x.on(0), 3);
        due.is("the FLOCK kept in 2: its STEP", x.on(2), 9999);
        due.finds(x, "none is kept in 1", x.on(1), Due.NOTHING);
        LastStirred stuck = Due.flock("g21..b00b10");
        stays(due, stuck, "ways(1): none can be", () -> stuck.ways(1));
        LastStirred told = Due.flock("g33.o.......b11");
        told.ways(1);
        Due.write(told, 0, "g21..b00b10");
        told.ground(0);
        stays(due, told, "ways(2): none can be", () -> told.ways(2));
        due.is("upper() stays", told.upper(), 1);
        due.is("lower() stays", told.lower(), 4);
    }

    /** Four BEASTS, one LOST, one in a FOLD; a LAST, a LAST BUT ONE; ROWS, TEXTS, kept FLOCKS; STEP 9999. */
    private static LastStirred lively() {
        LastStirred x = Due.flock("g62..#~.oo..=..b00s21l51m41");
        x.stir(3, 0);
        x.stir(0, 1);
        x.stir(3, 3);
        x.go(3);
        x.keep(0);
        Due.goTo(x, 9999);
        x.keep(2);
        Due.row(x, 0, 7, 8, 9);
        Due.row(x, 2, 3, 16);
        x.row(3, 0);
        x.row(4, 4);
        x.lay(4, 1, 12);
        Due.write(x, 1, "g21#.b00");
        x.ways(1);
        x.lay(0, 0, 6);
        return x;
    }

    private static void refusedRows(Due due, LastStirred x) {
        stays(due, x, "row(0, 61)", () -> x.row(0, 61));
        stays(due, x, "row(0, -1)", () -> x.row(0, -1));
        stays(due, x, "lay(0, 3, 1)", () -> x.lay(0, 3, 1));
        stays(due, x, "lay(0, -1, 1)", () -> x.lay(0, -1, 1));
        stays(due, x, "at(0, 3)", () -> x.at(0, 3));
        stays(due, x, "at(1, 0)", () -> x.at(1, 0));
        stays(due, x, "tear(1)", () -> x.tear(1));
        stays(due, x, "tear(6)", () -> x.tear(6));
        stays(due, x, "copy(0, 0, 2, 1, 2)", () -> x.copy(0, 0, 2, 1, 2));
        stays(due, x, "copy(0, 0, 2, 0, -1)", () -> x.copy(0, 0, 2, 0, -1));
        stays(due, x, "copy(0, 0, 1, 0, 1)", () -> x.copy(0, 0, 1, 0, 1));
        stays(due, x, "mean(3)", () -> x.mean(3));
        stays(due, x, "mean(1)", () -> x.mean(1));
        stays(due, x, "text(1, 81)", () -> x.text(1, 81));
        stays(due, x, "text(1, -1)", () -> x.text(1, -1));
        stays(due, x, "put(1, 8, 0)", () -> x.put(1, 8, 0));
        stays(due, x, "put(2, 0, 0)", () -> x.put(2, 0, 0));
        stays(due, x, "fault(2)", () -> x.fault(2));
        stays(due, x, "ground(1), a FAULT", () -> x.ground(1));
        stays(due, x, "ground(2)", () -> x.ground(2));
    }

    private static void refusedFlock(Due due, LastStirred x) {
        stays(due, x, "cell(12)", () -> x.cell(12));
        stays(due, x, "build(0, 5)", () -> x.build(0, 5));
        x.beast(0, 1);
        int c = x.asked();
        stays(due, x, "build(" + c + ", 1), a BEAST is there", () -> x.build(c, 1));
        stays(due, x, "beast(4, 0)", () -> x.beast(4, 0));
        stays(due, x, "mark(0, 1), UNLIKE", () -> x.mark(0, 1));
        stays(due, x, "stir(3, 0), it is LOST", () -> x.stir(3, 0));
        stays(due, x, "stir(2, 2), off the GROUND", () -> x.stir(2, 2));
        stays(due, x, "go(2), SPENT", () -> x.go(2));
        stays(due, x, "run(), SPENT", x::run);
        stays(due, x, "keep(3)", () -> x.keep(3));
        stays(due, x, "on(1), missing", () -> x.on(1));
        stays(due, x, "ways(3)", () -> x.ways(3));
        stays(due, x, "part(0, 0)", () -> x.part(0, 0));
        stays(due, x, "worth(3, 0), it is LOST", () -> x.worth(3, 0));
        stays(due, x, "worth(2, 2), off the GROUND", () -> x.worth(2, 2));
        stays(due, x, "stone(2), a WALL", () -> x.stone(2));
        stays(due, x, "drive(2), UNLIKE", () -> x.drive(2));
        stays(due, x, "drive(0), SPENT", () -> x.drive(0));
        stays(due, x, "drive(1), missing", () -> x.drive(1));
        stays(due, x, "reach(0, 2)", () -> x.reach(0, 2));
        stays(due, x, "wolf(3, 1), WATER", () -> x.wolf(3, 1));
        stays(due, x, "wolf(" + c + ", 1), a BEAST is there", () -> x.wolf(c, 1));
        stays(due, x, "dawn(0), SIZE", () -> x.dawn(0));
        stays(due, x, "who(4), UNLIKE", () -> x.who(4));
        stays(due, x, "dawn(4), UNLIKE", () -> x.dawn(4));
        stays(due, x, "who(1), missing", () -> x.who(1));
        stays(due, x, "breed(6)", () -> x.breed(6));
        stays(due, x, "count(8)", () -> x.count(8));
        stays(due, x, "findings(6)", () -> x.findings(6));
    }

    private static void findings(Sentences s) {
        s.of(TERMS, "1 NOTHING (a ROW, a TEXT, a kept FLOCK that is missing)", due -> {
            LastStirred x = Due.flock("g21..b00");
            due.finds(x, "a ROW: at(0, 0)", x.at(0, 0), 1);
            due.finds(x, "a TEXT: put(3, 0, 0)", x.put(3, 0, 0), 1);
            due.finds(x, "a kept FLOCK: on(0)", x.on(0), 1);
            due.finds(x, "a ROW: drive(5)", x.drive(5), 1);
            due.finds(x, "a ROW: dawn(1)", x.dawn(1), 1);
            due.is("findings(1)", x.findings(1), 5);
        });
        s.of(TERMS, "2 BEYOND (a place that there is not)", due -> {
            LastStirred x = new LastStirred();
            x.row(0, 0);
            x.text(0, 0);
            due.finds(x, "at(0, 0) in none", x.at(0, 0), 2);
            due.finds(x, "lay(0, -1, 0)", x.lay(0, -1, 0), 2);
            due.finds(x, "put(0, 0, 0) in none", x.put(0, 0, 0), 2);
            due.finds(x, "copy(0, 0, 0, 0, 1) in none", x.copy(0, 0, 0, 0, 1), 2);
            due.is("findings(2)", x.findings(2), 4);
        });
        s.of(TERMS, "3 UNLIKE (a BEAST of another KIND; a number that is none)", due -> {
            LastStirred x = Due.flock("g21..b00");
            Due.row(x, 0, 4);
            due.finds(x, "another KIND: mark(0, 1)", x.mark(0, 1), 3);
            due.finds(x, "no DRIVE: drive(0)", x.drive(0), 3);
            due.finds(x, "no CELL: dawn(0)", x.dawn(0), 3);
            due.finds(x, "no CELL: who(0)", x.who(0), 3);
            due.is("findings(3)", x.findings(3), 4);
        });
        s.of(TERMS, "4 NOUGHT (shared among none)", due -> {
            LastStirred x = new LastStirred();
            x.row(0, 0);
            due.finds(x, "mean(0)", x.mean(0), 4);
            due.finds(x, "ways(1)", x.ways(1), 4);
            due.is("findings(4)", x.findings(4), 2);
        });
        s.of(TERMS, "5 SIZE (fewer than none; not as many as due)", due -> {
            LastStirred x = Due.flock("g21..b00");
            x.row(1, 0);
            due.finds(x, "fewer than none: row(0, -1)", x.row(0, -1), 5);
            due.finds(x, "fewer than none: text(0, -1)", x.text(0, -1), 5);
            due.finds(x, "fewer than none: copy(1, 0, 1, 0, -1)", x.copy(1, 0, 1, 0, -1), 5);
            due.finds(x, "not as many: dawn(1)", x.dawn(1), 5);
            due.finds(x, "not as many: who(1)", x.who(1), 5);
            due.is("findings(5)", x.findings(5), 5);
        });
    }

    private static void toldApart(Sentences s) {
        s.of(TERMS, "Fractions are told by upper(), lower(), in lowest terms", due -> {
            LastStirred x = Due.flock("g33.o.o.....b11");
            due.is("2 of 4", x.ways(1), 2);
            due.is("upper()", x.upper(), 1);
            due.is("lower()", x.lower(), 2);
            x = Due.flock("g21.ob00");
            due.is("1 of 1", x.ways(1), 1);
            due.is("upper()", x.upper(), 1);
            due.is("lower()", x.lower(), 1);
        });
        s.of(TERMS, "the lower number above 0 (0 by 1)", due -> {
            LastStirred x = Due.flock("g33.........b11");
            due.is("0 of 4", x.ways(1), 0);
            due.is("upper()", x.upper(), 0);
            due.is("lower()", x.lower(), 1);
        });
        s.of(TERMS, "Sets (of BEASTS, of CELLS) are told by bits", due -> {
            LastStirred x = Due.flock("g65" + ".".repeat(30) + "b50b51b52b00");
            x.stir(2, 2);
            due.is("BEASTS 1 and 3", x.go(1), 1 << 1 | 1 << 3);
            due.is("all 30 CELLS", x.reach(29, 0), (1 << 30) - 1);
            x = Due.flock("g65" + ".".repeat(23) + "#....#.");
            due.is("CELL 29 alone", x.reach(29, 1), 1 << 29);
            x = Due.flock("g41....b00b30");
            Due.row(x, 0, 0, 2);
            x.build(1, 1);
            due.tells(x, "BEAST 1, way 3", x.who(0), 1 << 1, 1 << 3);
        });
    }

    // ---- 1

    private static void rowsAndTexts(Sentences s) {
        s.of(TERMS, "ROWS 0 .. 5", due -> {
            LastStirred x = Due.flock("g21..b00");
            int[] there = {0, 1, 2, 3, 4, 5};
            for (int r : there) due.is("row(" + r + ", 1)", x.row(r, 1), 1);
            for (int r : there) due.is("where(" + r + ")", x.where(r), 0);
            for (int r : there) due.is("tear(" + r + ")", x.tear(r), 1);
            for (int r : new int[] {-1, 6, Due.LEAST, Due.MOST}) {
                due.is("row(" + r + ", 1)", x.row(r, 1), Due.BAD);
                due.is("where(" + r + ")", x.where(r), Due.BAD);
                due.is("at(" + r + ", 0)", x.at(r, 0), Due.BAD);
                due.is("drive(" + r + ")", x.drive(r), Due.BAD);
                due.is("dawn(" + r + ")", x.dawn(r), Due.BAD);
            }
        });
        s.of(TERMS, "are rows of 0 to 60 ints", due -> {
            LastStirred x = new LastStirred();
            due.is("row(0, 0)", x.row(0, 0), 0);
            due.finds(x, "at(0, 0)", x.at(0, 0), Due.BEYOND);
            due.is("row(0, 60)", x.row(0, 60), 60);
            due.is("row(0, 61)", x.row(0, 61), Due.BAD);
            x.lay(0, 59, Due.LEAST);
            due.tells(x, "the least int", x.at(0, 59), 1, Due.LEAST);
            x.lay(0, 0, Due.MOST);
            due.tells(x, "the greatest int", x.at(0, 0), 1, Due.MOST);
        });
        s.of(TERMS, "TEXTS 0 .. 3", due -> {
            LastStirred x = new LastStirred();
            for (int t = 0; t < 4; t++) due.is("text(" + t + ", 1)", x.text(t, 1), 1);
            for (int t : new int[] {-1, 4, Due.LEAST, Due.MOST}) {
                due.is("text(" + t + ", 1)", x.text(t, 1), Due.BAD);
                due.is("put(" + t + ", 0, 0)", x.put(t, 0, 0), Due.BAD);
                due.is("fault(" + t + ")", x.fault(t), Due.BAD);
                due.is("ground(" + t + ")", x.ground(t), Due.BAD);
            }
        });
        s.of(TERMS, "rows of 0 to 80 bytes", due -> {
            LastStirred x = new LastStirred();
            due.is("text(0, 0)", x.text(0, 0), 0);
            due.finds(x, "put(0, 0, 0)", x.put(0, 0, 0), Due.BEYOND);
            due.is("text(0, 80)", x.text(0, 80), 80);
            due.is("put(0, 79, 0)", x.put(0, 79, 0), 1032);
            due.finds(x, "put(0, 80, 0)", x.put(0, 80, 0), Due.BEYOND);
            due.is("text(0, 81)", x.text(0, 81), Due.BAD);
        });
        s.of(TERMS, "or missing (at first)", due -> {
            LastStirred x = new LastStirred();
            for (int r = 0; r < 6; r++) due.finds(x, "mean(" + r + ") at first", x.mean(r), Due.NOTHING);
            for (int t = 0; t < 4; t++) due.finds(x, "fault(" + t + ") at first", x.fault(t), Due.NOTHING);
        });
    }

    private static void fault(Due due, String text, int want) {
        LastStirred x = Due.write(new LastStirred(), 0, text);
        due.is("fault of «" + text + "»", x.fault(0), want);
    }

    private static void grounds(Sentences s) {
        s.of(TERMS, "A GROUND (without CELLS at first)", due -> {
            LastStirred x = new LastStirred();
            due.is("count(0)", x.count(0), 0);
            due.is("cell(0)", x.cell(0), Due.BAD);
            due.is("build(0, 0)", x.build(0, 0), Due.BAD);
            due.is("stone(0)", x.stone(0), Due.BAD);
            due.is("reach(0, 0)", x.reach(0, 0), Due.BAD);
            due.is("wolf(0, 1)", x.wolf(0, 1), Due.BAD);
        });
        s.of(TERMS, "blanks (32) ahead, between, behind as many as wanted", due -> {
            fault(due, " ".repeat(75) + "g21..", Due.NONE);
            fault(due, "g21" + " ".repeat(75) + "..", Due.NONE);
            fault(due, "g21." + " ".repeat(75) + ".", Due.NONE);
            fault(due, "g21.." + " ".repeat(75), Due.NONE);
            fault(due, "g21.." + " ".repeat(72) + "b00", Due.NONE);
            fault(due, "g21..b00" + " ".repeat(69) + "b10", Due.NONE);
            fault(due, "g21..b00b10" + " ".repeat(69), Due.NONE);
            fault(due, "g41....b00b10b20b30" + " ".repeat(61), Due.NONE);
            fault(due, "g41....b00b10b20b30", Due.NONE);
            for (char c : new char[] {0, 9, 10, 13, 31, 33, 160, 255}) {
                fault(due, c + "g21..", 0);
                fault(due, "g21" + c + "..", 3);
                fault(due, "g21.." + c, 5);
                fault(due, "g21..b00" + c, 8);
            }
        });
        s.of(TERMS, "none within items", due -> {
            fault(due, "g 21..b00", 1);
            fault(due, "g2 1..b00", 2);
            fault(due, "g21..b 00", 6);
            fault(due, "g21..b0 0", 7);
        });
        s.of(TERMS, "w (2 .. 6)", due -> {
            for (int w = 0; w < 10; w++) fault(due, "g" + w + "1" + ".".repeat(w), w >= 2 && w <= 6 ? Due.NONE : 1);
        });
        s.of(TERMS, "h (1 .. 5)", due -> {
            for (int h = 0; h < 10; h++) {
                fault(due, "g2" + h + ".".repeat(2 * h), h >= 1 && h <= 5 ? Due.NONE : 2);
            }
            fault(due, "g65" + ".".repeat(30), Due.NONE);
        });
        s.of(TERMS, "one figure each", due -> {
            fault(due, "g021..", 1);
            fault(due, "g201..", 2);
            fault(due, "g101..........", 1);
            fault(due, "g210....................", 3);
            fault(due, "g2/..", 2);
            fault(due, "g2:..", 2);
        });
        s.of(TERMS, "CELL w y and x is in column x of row y", due -> {
            LastStirred x = Due.flock("g32......b20b01b21b00");
            due.cells(x, "g32", 2, 3, 5, 0);
            x = Due.flock("g65..............................b54b50b04b43");
            due.cells(x, "g65", 29, 5, 24, 22);
            due.is("from column 0 of row 1 up: into row 0", Due.flock("g32......b01").stir(0, 0), 0);
            due.is("from column 2 of row 0 down: into row 1", Due.flock("g32......b20").stir(0, 2), 5);
            due.is("from column 1 of row 0 down: into row 1", Due.flock("g32......b10").stir(0, 2), 4);
            due.is("from column 1 of row 1 right: into column 2", Due.flock("g32......b11").stir(0, 1), 5);
            due.is("count(0)", x.count(0), 30);
        });
        s.of(TERMS, "Then as many signs as there are CELLS, by their numbers (blanks may be between)", due -> {
            fault(due, "g22...", 6);
            fault(due, "g22....", Due.NONE);
            fault(due, "g22.....", 7);
            fault(due, "g22 . . . .", Due.NONE);
            fault(due, "g22...b00", 6);
            LastStirred x = Due.flock("g22.#~o");
            for (int c = 0; c < 4; c++) due.is("cell(" + c + ")", x.cell(c), c);
        });
        s.of(TERMS, ". (46) GRASS, # (35) a WALL, ~ (126) WATER, o (111) the FOLD, = (61) a GATE", due -> {
            int[] signs = {46, 35, 126, 111, 61};
            for (int v = 0; v < 256; v++) {
                int what = -1;
                for (int i = 0; i < 5; i++) if (signs[i] == v) what = i;
                fault(due, "g21." + (char) v, what >= 0 ? Due.NONE : v == 32 ? 5 : 4);
                if (what >= 0) due.is("its CELL", Due.flock("g21." + (char) v).cell(1), what);
            }
        });
    }

    private static void beasts(Sentences s) {
        s.of(TERMS, "BEASTS (none, or 4 at most; 0, 1, .. as they come)", due -> {
            due.is("none", Due.flock("g61......").count(1), 0);
            due.is("one", Due.flock("g61......b50").count(1), 1);
            LastStirred x = Due.flock("g61......b50s30l40c00");
            due.is("four", x.count(1), 4);
            due.cells(x, "as they come", 5, 3, 4, 0);
            due.is("beast(4, 0)", x.beast(4, 0), Due.BAD);
            fault(due, "g61......b50s30l40c00m10", 21);
        });
        s.of(TERMS, "b (98) BEAST, s (115) SHY, l (108) SLOW, c (99) CHASER, m (109) LAME, t (116) TIMID", due -> {
            int[] letters = {98, 115, 108, 99, 109, 116};
            for (int v = 0; v < 256; v++) {
                int kind = -1;
                for (int i = 0; i < 6; i++) if (letters[i] == v) kind = i;
                String text = "g21.." + (char) v + "00";
                fault(due, text, kind >= 0 ? Due.NONE : v == 32 ? 6 : 5);
                if (kind < 0) continue;
                LastStirred x = Due.flock(text);
                due.tells(x, "the KIND of " + (char) v, x.beast(0, 0), 1, kind);
            }
        });
        s.of(TERMS, "in a CELL that is neither WALL nor WATER", due -> {
            fault(due, "g51.#~o=b00", Due.NONE);
            fault(due, "g51.#~o=b10", 10);
            fault(due, "g51.#~o=b20", 10);
            fault(due, "g51.#~o=b30", Due.NONE);
            fault(due, "g51.#~o=b40", Due.NONE);
            fault(due, "g51.#~o=m40", Due.NONE);
        });
        s.of(TERMS, "where no other one is", due -> {
            fault(due, "g22....b11s11", 12);
            fault(due, "g22....b11s01b10b01", 18);
            fault(due, "g22....b11s01b10b00", Due.NONE);
        });
    }

    private static void faults(Sentences s) {
        s.of(TERMS, "A FAULT is the first place at which it can't go on so", due -> {
            fault(due, "x91##b99", 0);
            fault(due, "g91##b99", 1);
            fault(due, "g26.x.x", 2);
            fault(due, "g21.xb99", 4);
            fault(due, "g21#.b00b00", 7);
            fault(due, "g21..b90b09", 6);
        });
        s.of(TERMS, "(a letter", due -> {
            fault(due, "b21..", 0);
            fault(due, " G21..", 1);
            fault(due, "g21..d00", 5);
            fault(due, "g21..  00", 7);
            fault(due, "g21..b00o10", 8);
        });
        s.of(TERMS, "a sign", due -> {
            fault(due, "g21x.", 3);
            fault(due, "g21. b", 5);
            fault(due, "g211.", 3);
        });
        s.of(TERMS, "a figure that is none such", due -> {
            fault(due, "gx1..", 1);
            fault(due, "g2x..", 2);
            fault(due, "g21..bx0", 6);
            fault(due, "g21..b0x", 7);
            fault(due, "g21..b20", 6);
            fault(due, "g21..b01", 7);
            fault(due, "g25..........b40", 14);
            fault(due, "g52..........b03", 15);
            fault(due, "g65" + ".".repeat(30) + "b60", 34);
            fault(due, "g65" + ".".repeat(30) + "b55", 35);
            fault(due, "g65" + ".".repeat(30) + "b54", Due.NONE);
        });
        s.of(TERMS, "a fifth BEAST", due -> {
            fault(due, "g61......b00b10b20b30", Due.NONE);
            fault(due, "g61......b00b10b20b30b40", 21);
            fault(due, "g61......b00b10b20b30  b40", 23);
            fault(due, "g61......b00b10b20b30b", 21);
        });
        s.of(TERMS, "a figure y of a CELL that may not be: its place", due -> {
            fault(due, "g22#...b00", 9);
            fault(due, "g22~...  b00 ", 11);
            fault(due, "g22....b10b10", 12);
        });
        s.of(TERMS, "the TEXT's size, if its end comes too early", due -> {
            for (String text : new String[] {"", "   ", "g", "  g2", "g21", "g21  ", "g21.", "g21 . ", "g21..b", "g21..b0",
                    "g21..b00 t", "g21..b00 t1", "g61......b00b10b20b4"}) {
                fault(due, text, text.length());
            }
            fault(due, " ".repeat(80), 80);
            fault(due, "g21.." + " ".repeat(73) + "b0", 80);
        });
    }

    /** How many go, as bits, when BEAST 1 has stirred to the left. */
    private static int leftward(String ground, int step) {
        LastStirred x = Due.flockAt(ground, step);
        x.stir(1, 3);
        return x.go(1);
    }

    private static void kinds(Sentences s) {
        s.of(TERMS, "1 SHY (a BEAST: goes away)", due -> {
            LastStirred x = Due.flock("g61......s20b50");
            x.stir(1, 3);
            due.is("SHY, 2 OFF", x.go(1), 1);
            due.cells(x, "SHY, 2 OFF", 1, 4);
        });
        s.of(TERMS, "2 SLOW (a BEAST: goes only in even STEPS)", due -> {
            int[] steps = {0, 1, 2, 3, 40, 41, 9998, 9999};
            for (int step : steps) due.is("SLOW, STEP " + step, leftward("g51.....l00b40", step), 1 - step % 2);
            for (int step : steps) due.is("BEAST, STEP " + step, leftward("g51.....b00b40", step), 1);
        });
        s.of(TERMS, "3 CHASER (a BEAST: after the LAST BUT ONE)", due -> {
            LastStirred x = Due.flock("g61......c20b00b50");
            x.stir(1, 1);
            x.stir(2, 3);
            due.is("1 OFF the LAST BUT ONE, 2 OFF the LAST", x.go(1), 0);
            x = Due.flock("g61......c30b00b50");
            x.stir(1, 1);
            x.stir(2, 3);
            due.is("2 OFF the LAST BUT ONE, 1 OFF the LAST", x.go(1), 1);
            due.cells(x, "2 OFF the LAST BUT ONE", 2, 1, 4);
        });
        s.of(TERMS, "4 LAME (a SLOW: never into a GATE)", due -> {
            due.is("LAME, ahead of a GATE", leftward("g51.=...m00b40", 0), 0);
            due.is("SLOW, ahead of a GATE", leftward("g51.=...l00b40", 0), 1);
            due.is("LAME, out of a GATE", leftward("g51=....m00b40", 0), 1);
            due.is("LAME, even STEP", leftward("g51.....m00b40", 2), 1);
            due.is("LAME, odd STEP", leftward("g51.....m00b40", 3), 0);
            due.is("LAME, a STIRRING", Due.flock("g21.=m00").stir(0, 1), Due.STATE);
            due.is("LAME, a stone", Due.flock("g31..=m10").stone(0), 0);
        });
        s.of(TERMS, "5 TIMID (a SHY: only from what is less than 3 off)", due -> {
            due.is("TIMID, 1 OFF", leftward("g61......t30b50", 0), 1);
            due.is("TIMID, 2 OFF", leftward("g61......t20b50", 0), 1);
            due.is("TIMID, 3 OFF", leftward("g61......t10b50", 0), 0);
            due.is("SHY, 3 OFF", leftward("g61......s10b50", 0), 1);
            LastStirred x = Due.flock("g61......t20b50");
            x.stir(1, 3);
            x.go(1);
            due.cells(x, "TIMID goes away", 1, 4);
            due.is("TIMID, 2 OFF, one across and one down", leftward("g44" + ".".repeat(16) + "t11b32", 0), 1);
            due.is("TIMID, 3 OFF, two across and one down", leftward("g43............t02b31", 0), 0);
        });
        s.of(TERMS, "OFF are two CELLS by their columns and rows together", due -> {
            due.is("side by side", Due.flock("g33.........b00b10").apart(), 1);
            due.is("one above the other", Due.flock("g33.........b00b01").apart(), 1);
            due.is("one across and one down", Due.flock("g33.........b10b01").apart(), 2);
            due.is("from end to end", Due.flock("g65" + ".".repeat(30) + "b50b04").apart(), 9);
            due.is("one across and one down is 2 OFF: towards", leftward("g33.........b00b21", 0), 1);
            due.is("one across and one down is 2 OFF: a stone", Due.flock("g33.........b11").stone(0), 0);
        });
    }

    // ---- 2

    private static void theLast(Sentences s) {
        s.of(TERMS, "The LAST is the BEAST that stirred last, with the CELL at which it is (or was LOST)", due -> {
            LastStirred x = Due.flock("g41...~b00b20");
            x.stir(0, 1);
            due.last(x, "stirred", 0, 1);
            x.stir(1, 1);
            due.last(x, "LOST", 1, 3);
            due.is("the other one goes after it", x.go(1), 1);
            due.last(x, "gone", 0, 2);
            due.is("1 OFF the CELL where it was LOST", x.go(1), 0);
            due.last(x, "none went", 0, 2);
        });
        s.of(TERMS, "the LAST BUT ONE is that which was the LAST ahead of it (another one or the same), with its CELL then",
                due -> {
                    LastStirred x = Due.flock("g61......c00b20b50");
                    x.stir(1, 1);
                    due.is("none yet: the CHASER after the LAST", x.mark(0, 3), 3);
                    x.stir(2, 3);
                    due.is("another one", x.mark(0, 3), 3);
                    x.stir(1, 3);
                    due.is("another one", x.mark(0, 3), 4);
                    x.stir(1, 3);
                    due.is("the same, with its CELL then", x.mark(0, 3), 2);
                    x.stir(1, 1);
                    due.is("the same, with its CELL then", x.mark(0, 3), 1);
                });
        s.of(TERMS, "None at first: then no STEP moves anything", due -> {
            for (String kind : new String[] {"b", "s", "l", "c", "m", "t"}) {
                LastStirred x = Due.flock("g61......b20" + kind + "30" + kind + "00");
                due.last(x, kind + ", none at first", Due.NONE, Due.NONE);
                due.is(kind + ", STEP 0", x.go(1), 0);
                due.is(kind + ", 39 more", x.go(39), 0);
                due.cells(x, kind + ", 40 STEPS", 2, 3, 0);
                due.last(x, kind + ", 40 STEPS", Due.NONE, Due.NONE);
            }
        });
    }

    private static void can(Sentences s) {
        s.of(TERMS, "A BEAST CAN go to a CELL, if that is on the GROUND", due -> {
            LastStirred x = Due.flock("g33.........b20b01b21b02");
            due.is("off the right end, not into the next row", x.stir(0, 1), Due.STATE);
            due.is("off the left end, not into the row above", x.stir(1, 3), Due.STATE);
            due.is("off the right end, another row", x.stir(2, 1), Due.STATE);
            due.is("off the lower end", x.stir(3, 2), Due.STATE);
            due.is("off the upper end", x.stir(0, 0), Due.STATE);
            due.is("right, just on it", Due.flock("g33.........b12").stir(0, 1), 8);
            due.is("left, just on it", Due.flock("g33.........b10").stir(0, 3), 0);
            due.is("down, just on it", Due.flock("g33.........b21").stir(0, 2), 8);
            due.is("up, just on it", Due.flock("g33.........b01").stir(0, 0), 0);
            due.is("off the last corner", Due.flock("g33.........b22").stir(0, 1), Due.STATE);
            due.is("off the first corner", Due.flock("g33.........b00").stir(0, 3), Due.STATE);
            due.is("SHY at the left end stays", leftward("g32......s01b21", 0), 0);
            due.is("a stone, at the left end", Due.flock("g32......b01").stone(4), 0);
            due.is("a stone, at the right end", Due.flock("g32......b20").stone(1), 0);
        });
        s.of(TERMS, "if that is on the GROUND, no WALL", due -> {
            due.is("STIRRING into a WALL", Due.flock("g21.#b00").stir(0, 1), Due.STATE);
            due.is("STEP into a WALL", leftward("g51.#...b00b40", 0), 0);
            due.is("a stone before a WALL", Due.flock("g31..#b10").stone(0), 0);
            due.is("GRASS", Due.flock("g21..b00").stir(0, 1), 1);
            due.is("WATER", Due.flock("g21.~b00").stir(0, 1), 1);
            due.is("FOLD", Due.flock("g21.ob00").stir(0, 1), 1);
            due.is("GATE", Due.flock("g21.=b00").stir(0, 1), 1);
        });
        s.of(TERMS, "no other one is there", due -> {
            due.is("STIRRING", Due.flock("g21..b00s10").stir(0, 1), Due.STATE);
            due.is("STEP", leftward("g51.....b00b40b10", 0), 4);
            due.is("a stone", Due.flock("g31...b10b20").stone(0), 0);
            LastStirred x = Due.flock("g31.~.b00b20");
            x.stir(0, 1);
            due.is("a LOST one is not there", x.stir(1, 3), 1);
        });
        s.of(TERMS, "and, if it is a GATE, it is not LAME", due -> {
            due.is("STIRRING", Due.flock("g21.=m00").stir(0, 1), Due.STATE);
            due.is("STEP", leftward("g51.=...m00b40", 0), 0);
            due.is("not LAME, STEP", leftward("g51.=...b00b40", 0), 1);
            due.is("LAME, no GATE", Due.flock("g21.om00").stir(0, 1), 1);
        });
        s.of(TERMS, "no other one went into a GATE in this STEP", due -> {
            LastStirred x = Due.flock("g43.=...=......b00b01b32");
            x.stir(2, 0);
            due.is("one into a GATE, the other not into another one", x.go(1), 1);
            due.cells(x, "one into a GATE", 1, 4, 7);
            due.is("in the next STEP", x.go(1), 6);
            due.cells(x, "the next STEP", 1, 5, 6);
            x = Due.flock("g51.=...b10b00b40");
            x.stir(2, 3);
            due.is("one out of a GATE, another one into it", x.go(1), 3);
            x = Due.flock("g43.....=......b00b01b32");
            x.stir(2, 0);
            due.is("one into no GATE, another one into a GATE", x.go(1), 3);
            x = Due.flock("g43.=...=......m00b01b32");
            x.stir(2, 0);
            due.is("one that CAN't go into a GATE did not", x.go(1), 2);
        });
        s.of(TERMS, "Who goes into WATER is LOST", due -> {
            LastStirred x = Due.flock("g51.~...b00b40b30");
            x.stir(0, 1);
            due.cells(x, "STIRRING", Due.NONE, 4, 3);
            due.is("how many are LOST", x.count(2), 1);
            x = Due.flock("g51.~...b00b40");
            x.stir(1, 3);
            due.is("STEP", x.go(1), 1);
            due.cells(x, "STEP", Due.NONE, 3);
            x = Due.flock("g31~..b10");
            due.is("a stone", x.stone(2), 1);
            due.cells(x, "a stone", Due.NONE);
        });
    }

    private static void steps(Sentences s) {
        s.of(TERMS, "A STEP (0 is the first of a GROUND)", due -> {
            LastStirred x = Due.flock("g51.....l00b40");
            due.is("count(3)", x.count(3), 0);
            x.stir(1, 3);
            due.is("SLOW goes in the first STEP", x.go(1), 1);
            due.is("count(3) behind it", x.count(3), 1);
            x.ground(0);
            due.is("count(3), a GROUND anew", x.count(3), 0);
            x.stir(1, 3);
            due.is("SLOW goes in the first STEP of it", x.go(1), 1);
        });
        s.of(TERMS, "all that are not LOST, but the LAST", due -> {
            LastStirred x = Due.flock("g61......c20b50");
            x.stir(1, 3);
            x.stir(0, 3);
            due.is("the LAST, a CHASER with an AIM 3 OFF, stays", x.go(1), 2);
            due.cells(x, "the LAST stays", 1, 3);
            x = Due.flock("g61.~....b00b20b50");
            x.stir(0, 1);
            x.stir(2, 3);
            due.is("a LOST one stays so", x.go(1), 2);
            due.cells(x, "a LOST one stays so", Due.NONE, 3, 4);
        });
        s.of(TERMS, "go one behind the other by their numbers, if they go", due -> {
            LastStirred x = Due.flock("g51.....b10b00b40");
            x.stir(2, 3);
            due.is("into the CELL that a lesser one left", x.go(1), 3);
            due.cells(x, "both", 2, 1, 3);
            x = Due.flock("g51.....b00b10b40");
            x.stir(2, 3);
            due.is("not into the CELL where a greater one still is", x.go(1), 2);
            due.cells(x, "one", 0, 2, 3);
        });
        s.of(TERMS, "each by its AIM, the CELL of the LAST as the STEP began", due -> {
            LastStirred x = Due.flock("g61......b00b30b40");
            x.stir(2, 1);
            due.is("both go the same way", x.go(1), 3);
            due.cells(x, "not after the one that went just now", 1, 4, 5);
        });
        s.of(TERMS, "(a CHASER's: of the LAST BUT ONE, if there is one)", due -> {
            LastStirred x = Due.flock("g61......c00b50");
            x.stir(1, 3);
            due.is("none: after the LAST", x.go(1), 1);
            due.cells(x, "none: after the LAST", 1, 4);
            x = Due.flock("g61......c20b50b00");
            x.stir(1, 3);
            x.stir(2, 1);
            due.is("one: after it", x.go(1), 1);
            due.cells(x, "one: after it", 3, 4, 1);
        });
        s.of(TERMS, "A SLOW one only in STEPS of even number", due -> {
            LastStirred x = Due.flock("g61......l00l50");
            x.go(1);
            x.stir(1, 3);
            int[] went = {0, 1, 0, 2, 0, 1, 0, 0};
            for (int i = 0; i < went.length; i++) due.is("STEP " + (i + 1), x.go(1), went[i]);
        });
        s.of(TERMS, "The last that went in a STEP becomes the LAST behind it", due -> {
            LastStirred x = Due.flock("g61......b10b00b40");
            x.stir(2, 1);
            due.is("two went", x.go(1), 3);
            due.last(x, "two went", 1, 1);
            x = Due.flock("g51.~...b00b40");
            x.stir(1, 3);
            x.go(1);
            due.last(x, "it is LOST by that", 0, 1);
        });
        s.of(TERMS, "(the one ahead becomes the LAST BUT ONE, with its CELL)", due -> {
            LastStirred x = Due.flock("g62............c51b10b00b40");
            x.stir(3, 1);
            x.go(1);
            due.last(x, "two went", 2, 1);
            due.is("not the first that went, but the LAST ahead", x.mark(0, 3), 5);
            x = Due.flock("g61......c50b00b20");
            x.stir(1, 1);
            x.stir(2, 1);
            x.stir(0, 3);
            due.is("ahead", x.mark(0, 3), 3);
            x.stir(2, 3);
            due.is("ahead", x.mark(0, 3), 4);
            due.is("none goes: all are 1 OFF, or after one that they stand at", x.go(1), 0);
            due.last(x, "none went", 2, 2);
            due.is("none went: the LAST BUT ONE stays", x.mark(0, 3), 4);
        });
    }

    /** Where one in the middle of five by five CELLS goes in a STEP, the LAST being at an AIM; WALLS by their CELLS. */
    private static int fromTheMiddle(String kind, int aimX, int aimY, int... walls) {
        boolean onward = aimX > 0 && !(aimX == 3 && aimY == 2);
        int start = onward ? aimX - 1 : aimX + 1;
        LastStirred x = Due.flock("g55" + ".".repeat(25) + kind + "22b" + start + aimY);
        x.stir(1, onward ? 1 : 3);
        for (int c : walls) x.build(c, 1);
        x.go(1);
        x.beast(0, 1);
        return x.asked();
    }

    private static void goes(Due due, String kind, int aimX, int aimY, int want, int... walls) {
        String call = kind + " at 2, 2, the AIM at " + aimX + ", " + aimY + (walls.length > 0 ? ", with WALLS" : "");
        due.is(call, fromTheMiddle(kind, aimX, aimY, walls), want);
    }

    private static void towards(Sentences s) {
        s.of(TERMS, "Towards: not, if it is 1 OFF or less", due -> {
            LastStirred x = Due.flock("g31.~.b00b20");
            x.stir(1, 3);
            due.is("1 OFF, and nobody there", x.go(1), 0);
            due.cells(x, "1 OFF", 0, Due.NONE);
            goes(due, "b", 3, 2, 12);
            goes(due, "b", 3, 3, 13);
            goes(due, "b", 4, 2, 13);
            x = Due.flock("g61......c20b50b00");
            x.stir(0, 1);
            x.stir(1, 3);
            due.is("a CHASER at its AIM, 0 OFF", x.mark(0, 3), 3);
            due.is("only the other one goes", x.go(1), 4);
        });
        s.of(TERMS, "one CELL along that way (across or down) by which it is farther from its AIM", due -> {
            goes(due, "b", 4, 2, 13);
            goes(due, "b", 0, 2, 11);
            goes(due, "b", 2, 4, 17);
            goes(due, "b", 2, 0, 7);
            goes(due, "b", 4, 3, 13);
            goes(due, "b", 0, 1, 11);
            goes(due, "b", 3, 4, 17);
            goes(due, "b", 1, 0, 7);
            goes(due, "b", 1, 4, 17);
            goes(due, "b", 3, 0, 7);
        });
        s.of(TERMS, "(across, if alike)", due -> {
            goes(due, "b", 4, 4, 13);
            goes(due, "b", 0, 4, 11);
            goes(due, "b", 4, 0, 13);
            goes(due, "b", 0, 0, 11);
            goes(due, "b", 3, 3, 13);
            goes(due, "b", 1, 1, 11);
        });
        s.of(TERMS, "if it CAN't, along the other way, if it is apart by that; else not", due -> {
            goes(due, "b", 4, 3, 17, 13);
            goes(due, "b", 4, 1, 7, 13);
            goes(due, "b", 3, 4, 13, 17);
            goes(due, "b", 1, 4, 11, 17);
            goes(due, "b", 4, 4, 17, 13);
            goes(due, "b", 4, 4, 12, 13, 17);
            goes(due, "b", 4, 2, 12, 13);
            goes(due, "b", 0, 2, 12, 11);
            goes(due, "b", 2, 4, 12, 17);
            goes(due, "b", 2, 0, 12, 7);
        });
    }

    private static void away(Sentences s) {
        s.of(TERMS, "Away (SHY; TIMID only if its AIM is less than 3 OFF)", due -> {
            goes(due, "s", 4, 2, 11);
            goes(due, "s", 4, 3, 11);
            goes(due, "s", 4, 4, 11);
            goes(due, "s", 0, 0, 13);
            goes(due, "t", 4, 2, 11);
            goes(due, "t", 3, 3, 11);
            goes(due, "t", 3, 2, 11);
            goes(due, "t", 4, 3, 12);
            goes(due, "t", 1, 0, 12);
            goes(due, "t", 4, 4, 12);
        });
        s.of(TERMS, "likewise, but farther from it by the same two ways, however near it is", due -> {
            goes(due, "s", 3, 2, 11);
            goes(due, "s", 1, 2, 13);
            goes(due, "s", 2, 3, 7);
            goes(due, "s", 2, 1, 17);
            goes(due, "s", 3, 4, 7);
            goes(due, "s", 1, 0, 17);
            goes(due, "s", 3, 3, 11);
            goes(due, "s", 1, 1, 13);
            goes(due, "s", 3, 3, 7, 11);
            goes(due, "s", 3, 4, 11, 7);
            goes(due, "s", 3, 3, 12, 11, 7);
        });
        s.of(TERMS, "(a way by which it is not apart from it is not tried)", due -> {
            goes(due, "s", 3, 2, 12, 11);
            goes(due, "s", 1, 2, 12, 13);
            goes(due, "s", 2, 3, 12, 7);
            goes(due, "s", 2, 1, 12, 17);
            goes(due, "t", 4, 2, 12, 11);
        });
    }

    private static void stirrings(Sentences s) {
        s.of(TERMS, "A STIRRING of a BEAST by a way (0 up, 1 right, 2 down, 3 left): it goes one CELL so", due -> {
            int[] to = {1, 5, 7, 3};
            for (int way = 0; way < 4; way++) {
                LastStirred x = Due.flock("g33.........b11");
                due.is("stir(0, " + way + ")", x.stir(0, way), to[way]);
                due.cells(x, "stir(0, " + way + ")", to[way]);
            }
        });
        s.of(TERMS, "(if it CAN, as in a STEP of its own)", due -> {
            LastStirred x = Due.flock("g41.==.b00b30");
            due.is("into a GATE", x.stir(0, 1), 1);
            due.is("another one into another GATE, no STEP between", x.stir(1, 3), 2);
            x = Due.flockAt("g31...l00", 1);
            due.is("SLOW, ahead of an odd STEP", x.stir(0, 1), 1);
            due.is("TIMID, from nobody", Due.flock("g21..t00").stir(0, 1), 1);
        });
        s.of(TERMS, "and becomes the LAST", due -> {
            LastStirred x = Due.flock("g41...~b00b20");
            x.stir(0, 1);
            due.last(x, "one", 0, 1);
            x.stir(1, 1);
            due.last(x, "another one, LOST by it", 1, 3);
            x.stir(0, 3);
            due.last(x, "the first again", 0, 0);
            x.stir(0, 1);
            due.last(x, "the same", 0, 1);
        });
    }

    private static void runs(Sentences s) {
        s.of(TERMS, "They STAND behind two STEPS one behind the other in which none went", due -> {
            LastStirred x = Due.flock("g61......l00l50");
            x.go(1);
            x.stir(1, 3);
            due.tells(x, "still, gone, still, gone, still, gone, still, still", x.run(), 8, 1);
            x = Due.flock("g21..b00");
            due.tells(x, "still, still", x.run(), 2, 1);
        });
        s.of(TERMS, "STEPS until they STAND (by two STEPS of its own)", due -> {
            LastStirred x = Due.flock("g61......b00b50");
            x.go(1);
            due.tells(x, "one was still ahead", x.run(), 2, 1);
            due.tells(x, "two were still ahead", x.run(), 2, 1);
            due.is("STEP 5", x.count(3), 5);
            due.tells(x, "four were still ahead", x.run(), 2, 1);
            due.is("STEP 7", x.count(3), 7);
        });
        s.of(TERMS, "or 40", due -> {
            // They STAND 160 STEPS from here, and go in each even STEP till then.
            LastStirred x = Due.flock("g65.====.=======#.=#==###.=.#.==#l40l34l00l03");
            x.stir(1, 3);
            x.go(1);
            x.stir(0, 1);
            Due.goTo(x, 1 + 119);
            x.keep(0);
            due.tells(x, "41 STEPS ahead of that", x.run(), 40, 0);
            due.tells(x, "then one is left, and another", x.run(), 2, 1);
            x.on(0);
            x.go(1);
            due.tells(x, "40 STEPS ahead of that", x.run(), 40, 1);
            x.on(0);
            x.go(2);
            due.tells(x, "39 STEPS ahead of that", x.run(), 39, 1);
        });
        s.of(TERMS, "A DRIVE is a STIRRING and a RUN", due -> {
            LastStirred x = Due.flock("g61......b00l50");
            Due.row(x, 0, 7);
            due.is("drive(0)", x.drive(0), 1);
            LastStirred y = Due.flock("g61......b00l50");
            Due.row(y, 0, 7);
            due.is("stir(1, 3)", y.stir(1, 3), 4);
            due.tells(y, "run()", y.run(), 6, 1);
            due.is("alike", x.digest(), y.digest());
            due.cells(x, "the DRIVE", 2, 3);
        });
        s.of(TERMS, "SAFE are they, if none is LOST and all are in the FOLD (there is one at least)", due -> {
            due.is("there is none", Due.flock("g21oo").fewest(), Due.NONE);
            due.is("one in the FOLD", Due.flock("g21oob00").fewest(), 0);
            due.is("all in the FOLD", Due.flock("g41oooob00s10l20m30").fewest(), 0);
            due.is("the last is not", Due.flock("g41ooo=b00s10l20m30").breed(4) == 0 ? 1 : 0, 0);
            due.is("the first is not", Due.flock("g21.ob00b10").fewest(), Due.NONE);
            LastStirred x = Due.flock("g31o~.b00b20");
            x.stir(1, 3);
            due.is("one is LOST", x.fewest(), Due.NONE);
            x.stir(0, 1);
            due.is("all are LOST", x.fewest(), Due.NONE);
        });
    }
}
