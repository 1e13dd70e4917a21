/** Promises 1 to 16. */
public final class RowsTextsGroundsTest {
    private static final Due due = new Due("rows, texts, grounds");

    private static void promise1() {
        LastStirred x = new LastStirred();
        due.is("asked()", x.asked(), 0);
        due.is("upper()", x.upper(), 0);
        due.is("lower()", x.lower(), 1);
        due.is("finding()", x.finding(), 0);
        for (int f = 1; f <= 5; f++) due.is("findings(" + f + ")", x.findings(f), 0);
        for (int what = 0; what < 8; what++) due.is("count(" + what + ")", x.count(what), 0);
        for (int r = 0; r < 6; r++) due.finds(x, "at a row at first", x.at(r, 0), Due.NOTHING);
        for (int t = 0; t < 4; t++) due.finds(x, "fault of a text at first", x.fault(t), Due.NOTHING);
        for (int k = 0; k < 3; k++) due.finds(x, "on at first", x.on(k), Due.NOTHING);
        due.is("cell(0) at first", x.cell(0), Due.BAD);
        due.is("beast(0, 0) at first", x.beast(0, 0), Due.BAD);
        due.tells(x, "last() at first", x.last(), Due.NONE, Due.NONE);
        due.is("apart() at first", x.apart(), 0);
    }

    private static void promise2() {
        LastStirred x = new LastStirred();
        due.is("row(0, 0)", x.row(0, 0), 0);
        due.is("row(5, 60)", x.row(5, 60), 60);
        for (int i = 0; i < 60; i++) due.tells(x, "at(5, " + i + ")", x.at(5, i), 1, 0);
        due.is("row(5, 61)", x.row(5, 61), Due.BAD);
        due.is("row(-1, 1)", x.row(-1, 1), Due.BAD);
        due.is("row(6, 1)", x.row(6, 1), Due.BAD);
        due.is("row(6, -1): BAD comes first", x.row(6, -1), Due.BAD);
        due.is("no finding yet", x.finding(), 0);
        due.finds(x, "row(5, -1)", x.row(5, -1), Due.SIZE);
        due.finds(x, "row(1, least)", x.row(1, Integer.MIN_VALUE), Due.SIZE);
        due.is("two rows are there", x.count(6), 2);
        due.tells(x, "what is refused changes nothing", x.at(5, 59), 1, 0);
        due.is("row(0, 3)", x.row(0, 3), 3);
        x.lay(0, 2, 7);
        due.is("row(0, 1)", x.row(0, 1), 1);
        due.finds(x, "at(0, 2)", x.at(0, 2), Due.BEYOND);
        due.is("row(0, 3)", x.row(0, 3), 3);
        due.tells(x, "a row anew is of 0", x.at(0, 2), 1, 0);
    }

    private static void promise3() {
        LastStirred x = new LastStirred();
        due.finds(x, "lay(0, 0, 1)", x.lay(0, 0, 1), Due.NOTHING);
        x.row(0, 2);
        due.tells(x, "lay(0, 1, 5)", x.lay(0, 1, 5), 1, 0);
        due.tells(x, "lay(0, 1, least)", x.lay(0, 1, Integer.MIN_VALUE), 1, 5);
        due.tells(x, "lay(0, 1, 3)", x.lay(0, 1, 3), 1, Integer.MIN_VALUE);
        due.finds(x, "lay(0, 2, 1)", x.lay(0, 2, 1), Due.BEYOND);
        due.finds(x, "lay(0, -1, 1)", x.lay(0, -1, 1), Due.BEYOND);
        due.is("lay(6, 0, 1)", x.lay(6, 0, 1), Due.BAD);
        due.is("lay(-1, 9, 1)", x.lay(-1, 9, 1), Due.BAD);
        due.is("what is refused tells nothing", x.asked(), Integer.MIN_VALUE);
        due.tells(x, "the other place stays", x.at(0, 0), 1, 0);
    }

    private static void promise4() {
        LastStirred x = new LastStirred();
        Due.row(x, 3, 4, -5, 6);
        due.tells(x, "at(3, 0)", x.at(3, 0), 1, 4);
        due.tells(x, "at(3, 1)", x.at(3, 1), 1, -5);
        due.tells(x, "at(3, 2)", x.at(3, 2), 1, 6);
        due.finds(x, "at(3, 3)", x.at(3, 3), Due.BEYOND);
        due.finds(x, "at(3, -1)", x.at(3, -1), Due.BEYOND);
        due.finds(x, "at(2, 0)", x.at(2, 0), Due.NOTHING);
        due.is("at(6, 0)", x.at(6, 0), Due.BAD);
        due.is("at(-1, 0)", x.at(-1, 0), Due.BAD);
        due.is("asked() stays", x.asked(), 6);
    }

    private static void promise5() {
        LastStirred x = new LastStirred();
        due.finds(x, "tear(0)", x.tear(0), Due.NOTHING);
        Due.row(x, 0, 1);
        x.row(1, 0);
        due.is("tear(0)", x.tear(0), 1);
        due.finds(x, "at a torn row", x.at(0, 0), Due.NOTHING);
        due.finds(x, "tear(0) again", x.tear(0), Due.NOTHING);
        due.is("one row is there", x.count(6), 1);
        due.is("tear(1), of no places", x.tear(1), 1);
        due.is("tear(6)", x.tear(6), Due.BAD);
        due.is("tear(-1)", x.tear(-1), Due.BAD);
    }

    private static void promise6() {
        LastStirred x = new LastStirred();
        Due.row(x, 0, 1, 2, 3, 4, 5);
        Due.row(x, 1, 9, 9, 9);
        due.is("copy(0, 1, 1, 0, 2)", x.copy(0, 1, 1, 0, 2), 1);
        places(x, 1, 2, 3, 9);
        due.is("copy(0, 0, 0, 1, 4), onward in itself", x.copy(0, 0, 0, 1, 4), 1);
        places(x, 0, 1, 1, 2, 3, 4);
        due.is("copy(0, 1, 0, 0, 4), back in itself", x.copy(0, 1, 0, 0, 4), 1);
        places(x, 0, 1, 2, 3, 4, 4);
        due.is("none, at both ends", x.copy(0, 5, 1, 3, 0), 1);
        due.finds(x, "none, above the size", x.copy(0, 6, 1, 0, 0), Due.BEYOND);
        due.finds(x, "none, to above the size", x.copy(0, 0, 1, 4, 0), Due.BEYOND);
        due.finds(x, "none, from below 0", x.copy(0, -1, 1, 0, 0), Due.BEYOND);
        due.finds(x, "none, to below 0", x.copy(0, 0, 1, -1, 0), Due.BEYOND);
        due.finds(x, "not so many there", x.copy(0, 3, 1, 0, 3), Due.BEYOND);
        due.finds(x, "not so many to go to", x.copy(0, 0, 1, 1, 3), Due.BEYOND);
        due.finds(x, "far too many", x.copy(0, 1, 1, 1, Integer.MAX_VALUE), Due.BEYOND);
        due.finds(x, "from far", x.copy(0, Integer.MAX_VALUE, 1, 0, 1), Due.BEYOND);
        due.finds(x, "from a missing one, place beyond", x.copy(2, 9, 1, 0, 1), Due.NOTHING);
        due.finds(x, "to a missing one", x.copy(0, 0, 2, 0, 1), Due.NOTHING);
        due.finds(x, "fewer than none, of a missing one", x.copy(2, 0, 1, 0, -1), Due.SIZE);
        due.is("no row 6, fewer than none", x.copy(6, 0, 1, 0, -1), Due.BAD);
        due.is("no row -1 to come to", x.copy(0, 0, -1, 0, 1), Due.BAD);
        places(x, 0, 1, 2, 3, 4, 4);
        places(x, 1, 2, 3, 9);
    }

    private static void places(LastStirred x, int r, int... want) {
        for (int i = 0; i < want.length; i++) due.tells(x, "at(" + r + ", " + i + ")", x.at(r, i), 1, want[i]);
    }

    private static void promise7() {
        LastStirred x = new LastStirred();
        due.finds(x, "mean(0)", x.mean(0), Due.NOTHING);
        x.row(0, 0);
        due.finds(x, "mean(0) of none", x.mean(0), Due.NOUGHT);
        due.is("mean(6)", x.mean(6), Due.BAD);
        due.is("mean(-1)", x.mean(-1), Due.BAD);
        Due.row(x, 0, 1, 2, 4);
        due.tells(x, "mean of 1, 2, 4", x.mean(0), 1, 2);
        Due.row(x, 0, -1, -2);
        due.tells(x, "mean of -1, -2, cut", x.mean(0), 1, -1);
        Due.row(x, 0, Integer.MAX_VALUE, Integer.MAX_VALUE, Integer.MAX_VALUE);
        due.tells(x, "mean of great ones", x.mean(0), 1, Integer.MAX_VALUE);
        x.row(0, 60);
        x.lay(0, 59, 120);
        due.tells(x, "mean of 60", x.mean(0), 1, 2);
    }

    private static void promise8() {
        LastStirred x = new LastStirred();
        due.is("text(3, 80)", x.text(3, 80), 80);
        for (int i = 0; i < 80; i++) due.is("a blank at first", x.put(3, i, 7), 1032);
        due.is("text(3, 2)", x.text(3, 2), 2);
        due.is("a blank again", x.put(3, 1, 7), 1032);
        due.is("text(3, 80)", x.text(3, 80), 80);
        due.is("a blank again behind", x.put(3, 79, 7), 1032);
        due.is("text(0, 0)", x.text(0, 0), 0);
        due.is("text(0, 81)", x.text(0, 81), Due.BAD);
        due.is("text(4, 1)", x.text(4, 1), Due.BAD);
        due.is("text(-1, -1): BAD comes first", x.text(-1, -1), Due.BAD);
        due.finds(x, "text(1, -1)", x.text(1, -1), Due.SIZE);
        due.is("two texts are there", x.count(7), 2);
    }

    private static void promise9() {
        LastStirred x = new LastStirred();
        due.finds(x, "put(1, 0, 1)", x.put(1, 0, 1), Due.NOTHING);
        x.text(1, 2);
        due.is("put(1, 0, 127)", x.put(1, 0, 127), 1032);
        due.is("put(1, 0, 128)", x.put(1, 0, 128), 1127);
        due.is("put(1, 0, 511)", x.put(1, 0, 511), 872);
        due.is("put(1, 0, 256)", x.put(1, 0, 256), 999);
        due.is("put(1, 0, -129)", x.put(1, 0, -129), 1000);
        due.is("put(1, 0, 0)", x.put(1, 0, 0), 1127);
        due.is("the other byte stays", x.put(1, 1, 0), 1032);
        due.finds(x, "put(1, 2, 0)", x.put(1, 2, 0), Due.BEYOND);
        due.finds(x, "put(1, -1, 0)", x.put(1, -1, 0), Due.BEYOND);
        due.is("put(4, 0, 0)", x.put(4, 0, 0), Due.BAD);
        due.is("put(-1, 0, 0)", x.put(-1, 0, 0), Due.BAD);
    }

    private static void faultOf(String text, int want) {
        LastStirred x = Due.write(new LastStirred(), 2, text);
        due.is("fault of «" + text + "»", x.fault(2), want);
        due.is("the text stays: count(7)", x.count(7), 1);
        due.is("no ground by a fault: count(0)", x.count(0), 0);
    }

    private static void promise10() {
        faultOf("", 0);
        faultOf("   ", 3);
        faultOf("x", 0);
        faultOf("  x", 2);
        faultOf("G22....", 0);
        faultOf("g", 1);
        faultOf("g 22....", 1);
        faultOf("g1", 1);
        faultOf("g7", 1);
        faultOf("g2 2....", 2);
        faultOf("g20", 2);
        faultOf("g26", 2);
        faultOf("g21", 3);
        faultOf("g21.", 4);
        faultOf("g21. ", 5);
        faultOf("g21.,", 4);
        faultOf("g21..", Due.NONE);
        faultOf(" g21 . . ", Due.NONE);
        faultOf("g65.#~o=..............................", 33);
        faultOf("g65.#~o=.........................", Due.NONE);
        faultOf("g65                                                  .#~o=", 58);
        faultOf("g65" + " ".repeat(77), 80);
        faultOf("g21.." + " ".repeat(74) + "b", 80);
        faultOf("g21..g", 5);
        faultOf("g21..B", 5);
        faultOf("g21...", 5);
        faultOf("g21..b", 6);
        faultOf("g21..b ", 6);
        faultOf("g21..b 0", 6);
        faultOf("g21..b0", 7);
        faultOf("g21..b0 0", 7);
        faultOf("g21..b2", 6);
        faultOf("g21..b/0", 6);
        faultOf("g21..b01", 7);
        faultOf("g21..b0x", 7);
        faultOf("g21..b00", Due.NONE);
        faultOf("g21..b00b", 9);
        faultOf("g21..b00s00", 10);
        faultOf("g21#.b00", 7);
        faultOf("g21~.b00", 7);
        faultOf("g21o=b00t10", Due.NONE);
        faultOf("g61......b00s10l20c30 ", Due.NONE);
        faultOf("g61......m00t10l20c30b40", 21);
        faultOf("g61......m00t10l20c30 x", 22);
        faultOf("g25..........b20", 14);
        faultOf("g25..........b14", Due.NONE);
        faultOf("g25..........b15", 15);
        LastStirred x = new LastStirred();
        due.finds(x, "fault(0)", x.fault(0), Due.NOTHING);
        due.is("fault(4)", x.fault(4), Due.BAD);
        due.is("fault(-1)", x.fault(-1), Due.BAD);
        x.text(0, 6);
        int[] bytes = {'g', '2', '1', '.', '.', 0};
        for (int i = 0; i < 6; i++) x.put(0, i, bytes[i]);
        due.is("fault at byte 0", x.fault(0), 5);
        x.put(0, 5, ' ' + 256);
        due.is("fault of cut bytes", x.fault(0), Due.NONE);
        x.put(0, 3, -1);
        due.is("fault at byte -1", x.fault(0), 3);
    }

    private static void promise11() {
        LastStirred x = new LastStirred();
        due.is("ground(4)", x.ground(4), Due.BAD);
        due.is("ground(-1)", x.ground(-1), Due.BAD);
        due.finds(x, "ground(0)", x.ground(0), Due.NOTHING);
        Due.write(x, 0, "g31...b");
        due.is("ground by a fault", x.ground(0), Due.STATE);
        due.is("no cells", x.count(0), 0);
        Due.write(x, 1, "g32.#~o=.b00t22l02m12");
        due.is("a beast beyond", x.ground(1), Due.STATE);
        Due.write(x, 1, "g32.#~o=.b00t21l01");
        due.is("ground(1)", x.ground(1), 3);
        int[] what = {0, 1, 2, 3, 4, 0};
        for (int c = 0; c < 6; c++) due.is("cell(" + c + ")", x.cell(c), what[c]);
        due.cells(x, "ground(1)", 0, 5, 3);
        due.is("a stirring", x.stir(0, 2), Due.STATE);
        due.is("a stirring", x.stir(1, 3), 4);
        x.go(3);
        x.keep(1);
        due.is("a fault leaves all", x.ground(0), Due.STATE);
        due.is("its step", x.count(3), 3);
        due.is("its kept flock", x.count(5), 1);
        due.last(x, "a fault leaves all", 1, 4);
        due.is("ground(1) anew", x.ground(1), 3);
        due.is("step 0", x.count(3), 0);
        due.is("no kept flocks", x.count(5), 0);
        due.finds(x, "on(1)", x.on(1), Due.NOTHING);
        due.last(x, "ground(1) anew", Due.NONE, Due.NONE);
        due.tells(x, "it went none yet", x.beast(1, 2), 1, 0);
        Due.write(x, 2, "g21..");
        due.is("a ground without beasts", x.ground(2), 0);
        due.is("two cells", x.count(0), 2);
        due.is("a cell that was", x.cell(2), Due.BAD);
        due.is("a chaser of the last ground has no aim left", x.count(1), 0);
    }

    private static void promise12() {
        LastStirred x = Due.flock("g41.#o=b00s30");
        due.tells(x, "cell(0)", x.cell(0), 0, 0);
        due.tells(x, "cell(1)", x.cell(1), 1, Due.NONE);
        due.tells(x, "cell(2)", x.cell(2), 3, Due.NONE);
        due.tells(x, "cell(3)", x.cell(3), 4, 1);
        due.is("cell(4)", x.cell(4), Due.BAD);
        due.is("cell(-1)", x.cell(-1), Due.BAD);
        due.is("asked() stays", x.asked(), 1);
        x = Due.flock("g21.~b00");
        x.stir(0, 1);
        due.tells(x, "none is in the water", x.cell(1), 2, Due.NONE);
        due.tells(x, "none is left behind", x.cell(0), 0, Due.NONE);
    }

    private static void promise13() {
        LastStirred x = Due.flock("g31.#ob00");
        for (int what = 0; what < 5; what++) due.is("build(1, " + what + ")", x.build(1, what), what == 0 ? 1 : what - 1);
        due.is("cell(1)", x.cell(1), 4);
        due.is("build(1, 5)", x.build(1, 5), Due.BAD);
        due.is("build(1, -1)", x.build(1, -1), Due.BAD);
        due.is("build(3, 0)", x.build(3, 0), Due.BAD);
        due.is("build(-1, 0)", x.build(-1, 0), Due.BAD);
        due.is("build(0, 1), on a beast", x.build(0, 1), Due.STATE);
        due.is("build(0, 2), on a beast", x.build(0, 2), Due.STATE);
        due.is("build(0, 3), under a beast", x.build(0, 3), 0);
        due.is("build(0, 4), under a beast", x.build(0, 4), 3);
        due.is("build(2, 1)", x.build(2, 1), 3);
        due.is("cell(2)", x.cell(2), 1);
        due.is("it went into the gate", x.stir(0, 1), 1);
        due.is("but not into the new wall", x.stir(0, 1), Due.STATE);
        due.is("where it was", x.build(0, 2), 4);
        due.is("new water", x.stir(0, 3), 0);
        due.is("it is lost", x.count(2), 1);
        due.is("a wall where it was lost", x.build(0, 1), 2);
    }

    private static void promise14() {
        LastStirred x = Due.flock("g61....~.b00s10l20c30");
        for (int k = 0; k < 4; k++) {
            due.tells(x, "kind", x.beast(k, 0), 1, k);
            due.tells(x, "cell", x.beast(k, 1), 1, k);
            due.tells(x, "went", x.beast(k, 2), 1, 0);
        }
        due.is("beast(4, 0)", x.beast(4, 0), Due.BAD);
        due.is("beast(-1, 0)", x.beast(-1, 0), Due.BAD);
        due.is("beast(0, 3)", x.beast(0, 3), Due.BAD);
        due.is("beast(0, -1)", x.beast(0, -1), Due.BAD);
        due.is("asked() stays", x.asked(), 0);
        x.stir(3, 1);
        due.tells(x, "lost: its kind", x.beast(3, 0), 1, 3);
        due.tells(x, "lost: no cell", x.beast(3, 1), 1, Due.NONE);
        due.tells(x, "lost: it went one cell", x.beast(3, 2), 1, 1);
        x.go(1);
        due.tells(x, "one cell by a step", x.beast(2, 2), 1, 1);
        x.keep(0);
        x.stir(2, 3);
        due.tells(x, "one more", x.beast(2, 2), 1, 2);
        x.on(0);
        due.tells(x, "as it was kept", x.beast(2, 2), 1, 1);
        x = Due.flock("g31...m00t20");
        due.tells(x, "LAME", x.beast(0, 0), 1, 4);
        due.tells(x, "TIMID", x.beast(1, 0), 1, 5);
        x.stone(1);
        due.tells(x, "no way to flee to", x.beast(0, 2), 1, 0);
        x.stir(0, 1);
        x.stone(0);
        due.tells(x, "no way to flee to, still", x.beast(0, 2), 1, 1);
        x.stone(2);
        due.tells(x, "a stone lets it go", x.beast(0, 2), 1, 2);
    }

    private static void promise15() {
        LastStirred x = Due.flock("g62=....=......s00l10c20m30");
        due.is("mark(0, 0)", x.mark(0, 0), Due.BAD);
        due.is("mark(0, 6)", x.mark(0, 6), Due.BAD);
        due.is("mark(4, 1)", x.mark(4, 1), Due.BAD);
        due.is("mark(-1, 1)", x.mark(-1, 1), Due.BAD);
        due.finds(x, "SHY is not SLOW", x.mark(0, 2), Due.UNLIKE);
        due.finds(x, "SHY is not TIMID", x.mark(0, 5), Due.UNLIKE);
        due.finds(x, "SLOW is not LAME", x.mark(1, 4), Due.UNLIKE);
        due.finds(x, "SLOW is not SHY", x.mark(1, 1), Due.UNLIKE);
        due.finds(x, "LAME is no CHASER", x.mark(3, 3), Due.UNLIKE);
        due.is("SHY, no LAST", x.mark(0, 1), Due.NONE);
        due.is("SLOW, even", x.mark(1, 2), 0);
        due.is("LAME, even", x.mark(3, 2), 0);
        due.is("CHASER, no AIM", x.mark(2, 3), Due.NONE);
        due.is("LAME, two GATES", x.mark(3, 4), 2);
        x.go(1);
        due.is("SLOW, odd", x.mark(1, 2), 1);
        due.is("LAME, odd", x.mark(3, 2), 1);
        x.stir(3, 2);
        due.is("SHY, the LAST at 9", x.mark(0, 1), 4);
        due.is("CHASER, no LAST BUT ONE: the LAST", x.mark(2, 3), 9);
        x.stir(1, 2);
        due.is("SHY, the LAST at 7", x.mark(0, 1), 2);
        due.is("CHASER, the LAST BUT ONE", x.mark(2, 3), 9);
        x.stir(0, 2);
        due.is("SHY, itself the LAST", x.mark(0, 1), 0);
        x.build(3, 4);
        due.is("LAME, three GATES", x.mark(3, 4), 3);
        timid();
    }

    private static void timid() {
        LastStirred x = Due.flock("g53~..............t01b10b20b30");
        due.is("TIMID is SHY", x.mark(0, 1), Due.NONE);
        due.is("TIMID: one at 2 off, others at 3, 4", x.mark(0, 5), 1);
        x.stir(2, 2);
        due.is("TIMID: one at 2 off, one at 2 off", x.mark(0, 5), 2);
        due.is("TIMID, as SHY: the LAST at 7", x.mark(0, 1), 2);
        due.is("one is lost", x.stir(1, 3), 0);
        due.is("SHY: off the lost LAST", x.mark(0, 1), 1);
        due.is("TIMID: not the lost one", x.mark(0, 5), 1);
        due.is("it is lost itself", x.stir(0, 0), 0);
        due.is("SHY, lost", x.mark(0, 1), Due.NONE);
        due.is("TIMID, lost", x.mark(0, 5), Due.NONE);
        due.finds(x, "a lost TIMID is no LAME", x.mark(0, 4), Due.UNLIKE);
        x = Due.flock("g42~~~=....l01c11m21");
        x.go(1);
        for (int k = 0; k < 3; k++) due.is("lost", x.stir(k, 0), k);
        due.is("SLOW, lost", x.mark(0, 2), 1);
        due.is("CHASER, lost", x.mark(1, 3), 1);
        due.is("LAME, lost", x.mark(2, 4), 1);
        x = Due.flock("g61......b00t10t20b30");
        due.is("TIMID: three at 1, 1, 2 off", x.mark(1, 5), 3);
    }

    private static void promise16() {
        LastStirred x = Due.flock("g41...~b00b20");
        x.cell(0);
        due.tells(x, "last(), none yet", x.last(), Due.NONE, Due.NONE);
        x.go(2);
        due.tells(x, "last(), none by steps", x.last(), Due.NONE, Due.NONE);
        x.stir(0, 1);
        due.tells(x, "last()", x.last(), 0, 1);
        x.stir(1, 1);
        due.tells(x, "last(), lost", x.last(), 1, 3);
        x.go(1);
        due.tells(x, "last(), by a step", x.last(), 0, 2);
        x.stir(0, 3);
        due.tells(x, "last(), the same again", x.last(), 0, 1);
        x.build(1, 4);
        due.tells(x, "last(), its cell built upon", x.last(), 0, 1);
    }

    public static void main(String[] args) {
        promise1();
        promise2();
        promise3();
        promise4();
        promise5();
        promise6();
        promise7();
        promise8();
        promise9();
        promise10();
        promise11();
        promise12();
        promise13();
        promise14();
        promise15();
        promise16();
        due.end();
    }
}
