import java.io.IOException;

/** The sentences of promises 1 to 16 that name a boundary case. */
public final class RowsSentencesTest {
    public static void main(String[] args) throws IOException {
        Sentences s = new Sentences();
        tell(s);
        s.run("RowsSentencesTest");
    }

    static void tell(Sentences s) {
        promise1(s);
        promise2(s);
        promise3(s);
        promise4(s);
        promise5(s);
        promise6(s);
        promise6Refused(s);
        promise7(s);
        promise8(s);
        promise9(s);
        promise10(s);
        promise11(s);
        promise11Refused(s);
        promise12(s);
        promise13(s);
        promise14(s);
        promise15(s);
        promise15Bounds(s);
        promise16(s);
    }

    private static void promise1(Sentences s) {
        s.of("Promise 1", "No ROWS, TEXTS, CELLS, BEASTS", due -> {
            LastStirred x = new LastStirred();
            due.is("ROWS", x.count(6), 0);
            due.is("TEXTS", x.count(7), 0);
            due.is("CELLS", x.count(0), 0);
            due.is("BEASTS", x.count(1), 0);
            due.is("beast(0, 0)", x.beast(0, 0), Due.BAD);
            due.is("cell(0)", x.cell(0), Due.BAD);
            due.is("the STEP", x.count(3), 0);
            due.is("another object's calls aside", Due.flock("g21..b00").count(1), 1);
            due.is("BEASTS of a new one", new LastStirred().count(1), 0);
        });
    }

    private static void promise2(Sentences s) {
        s.of("Promise 2", "A ROW is there with n ints 0: n", due -> {
            LastStirred x = new LastStirred();
            due.is("row(0, 0)", x.row(0, 0), 0);
            due.places(x, 0);
            due.is("row(1, 1)", x.row(1, 1), 1);
            due.places(x, 1, 0);
            due.is("row(2, 60)", x.row(2, 60), 60);
            due.places(x, 2, new int[60]);
            for (int i = 0; i < 60; i++) x.lay(2, i, 5);
            due.is("row(2, 2), there by now", x.row(2, 2), 2);
            due.places(x, 2, 0, 0);
            due.is("row(2, 60), there by now", x.row(2, 60), 60);
            due.places(x, 2, new int[60]);
        });
        s.of("Promise 2", "BAD", due -> {
            LastStirred x = new LastStirred();
            due.is("row(-1, 0)", x.row(-1, 0), Due.BAD);
            due.is("row(6, 0)", x.row(6, 0), Due.BAD);
            due.is("row(least, 0)", x.row(Due.LEAST, 0), Due.BAD);
            due.is("row(greatest, 60)", x.row(Due.MOST, 60), Due.BAD);
        });
        s.of("Promise 2", "BAD: also n above 60", due -> {
            LastStirred x = new LastStirred();
            due.is("row(0, 61)", x.row(0, 61), Due.BAD);
            due.is("row(0, greatest)", x.row(0, Due.MOST), Due.BAD);
            due.is("none is there", x.count(6), 0);
            Due.row(x, 0, 7, 8);
            due.is("row(0, 61)", x.row(0, 61), Due.BAD);
            due.places(x, 0, 7, 8);
            due.is("row(0, 60)", x.row(0, 60), 60);
        });
        s.of("Promise 2", "SIZE: below 0", due -> {
            LastStirred x = new LastStirred();
            due.finds(x, "row(0, -1)", x.row(0, -1), Due.SIZE);
            due.finds(x, "row(0, least)", x.row(0, Due.LEAST), Due.SIZE);
            due.is("none is there", x.count(6), 0);
            Due.row(x, 0, 7, 8);
            due.finds(x, "row(0, -1)", x.row(0, -1), Due.SIZE);
            due.places(x, 0, 7, 8);
            due.is("findings(5)", x.findings(5), 3);
        });
    }

    private static void promise3(Sentences s) {
        s.of("Promise 3", "Place i of a ROW is v: what it was, told by asked(): 1", due -> {
            LastStirred x = new LastStirred();
            x.row(5, 60);
            due.tells(x, "lay(5, 0, greatest)", x.lay(5, 0, Due.MOST), 1, 0);
            due.tells(x, "lay(5, 59, least)", x.lay(5, 59, Due.LEAST), 1, 0);
            due.tells(x, "lay(5, 0, -1)", x.lay(5, 0, -1), 1, Due.MOST);
            due.tells(x, "lay(5, 59, 0)", x.lay(5, 59, 0), 1, Due.LEAST);
            due.tells(x, "at(5, 0)", x.at(5, 0), 1, -1);
            due.tells(x, "at(5, 1)", x.at(5, 1), 1, 0);
            due.tells(x, "at(5, 59)", x.at(5, 59), 1, 0);
        });
        s.of("Promise 3", "BAD", due -> {
            LastStirred x = new LastStirred();
            for (int r : new int[] {-1, 6, Due.LEAST, Due.MOST}) {
                due.is("lay(" + r + ", 0, 1)", x.lay(r, 0, 1), Due.BAD);
                due.is("lay(" + r + ", -1, 1)", x.lay(r, -1, 1), Due.BAD);
            }
        });
        s.of("Promise 3", "NOTHING", due -> {
            LastStirred x = new LastStirred();
            due.finds(x, "lay(0, 0, 1)", x.lay(0, 0, 1), Due.NOTHING);
            due.finds(x, "lay(0, -1, 1), too", x.lay(0, -1, 1), Due.NOTHING);
            x.row(0, 1);
            x.tear(0);
            due.finds(x, "lay(0, 0, 1), torn", x.lay(0, 0, 1), Due.NOTHING);
        });
        s.of("Promise 3", "BEYOND", due -> {
            LastStirred x = new LastStirred();
            x.row(0, 0);
            due.finds(x, "lay(0, 0, 1) in none", x.lay(0, 0, 1), Due.BEYOND);
            x.row(0, 60);
            for (int i : new int[] {-1, 60, Due.LEAST, Due.MOST}) {
                due.finds(x, "lay(0, " + i + ", 1)", x.lay(0, i, 1), Due.BEYOND);
            }
            due.places(x, 0, new int[60]);
            Due.row(x, 0, 7);
            due.finds(x, "lay(0, 1, 1), a place of the ROW ahead", x.lay(0, 1, 1), Due.BEYOND);
        });
    }

    private static void promise4(Sentences s) {
        s.of("Promise 4", "Place i of a ROW, told by asked(): 1", due -> {
            LastStirred x = new LastStirred();
            x.row(0, 60);
            x.lay(0, 0, Due.LEAST);
            x.lay(0, 59, -9);
            due.tells(x, "at(0, 0)", x.at(0, 0), 1, Due.LEAST);
            due.tells(x, "at(0, 59)", x.at(0, 59), 1, -9);
            due.tells(x, "at(0, 58)", x.at(0, 58), 1, 0);
        });
        s.of("Promise 4", "BAD", due -> {
            LastStirred x = new LastStirred();
            for (int r : new int[] {-1, 6, Due.LEAST, Due.MOST}) {
                due.is("at(" + r + ", 0)", x.at(r, 0), Due.BAD);
                due.is("at(" + r + ", -1)", x.at(r, -1), Due.BAD);
            }
        });
        s.of("Promise 4", "NOTHING", due -> {
            LastStirred x = new LastStirred();
            due.finds(x, "at(5, 0)", x.at(5, 0), Due.NOTHING);
            due.finds(x, "at(5, 99), too", x.at(5, 99), Due.NOTHING);
            x.row(5, 1);
            x.tear(5);
            due.finds(x, "at(5, 0), torn", x.at(5, 0), Due.NOTHING);
        });
        s.of("Promise 4", "BEYOND", due -> {
            LastStirred x = new LastStirred();
            x.row(0, 0);
            due.finds(x, "at(0, 0) in none", x.at(0, 0), Due.BEYOND);
            x.row(0, 60);
            for (int i : new int[] {-1, 60, Due.LEAST, Due.MOST}) {
                due.finds(x, "at(0, " + i + ")", x.at(0, i), Due.BEYOND);
            }
            x.row(0, 2);
            due.finds(x, "at(0, 2), a place of the ROW ahead", x.at(0, 2), Due.BEYOND);
        });
    }

    private static void promise5(Sentences s) {
        s.of("Promise 5", "A ROW is missing: 1", due -> {
            LastStirred x = new LastStirred();
            Due.row(x, 0, 1, 2);
            x.row(1, 0);
            x.row(2, 60);
            due.is("tear(0)", x.tear(0), 1);
            due.is("tear(1), of none", x.tear(1), 1);
            due.is("one is there", x.count(6), 1);
            due.finds(x, "at(0, 0)", x.at(0, 0), Due.NOTHING);
            due.finds(x, "mean(1)", x.mean(1), Due.NOTHING);
            due.is("row(0, 2)", x.row(0, 2), 2);
            due.places(x, 0, 0, 0);
        });
        s.of("Promise 5", "BAD", due -> {
            LastStirred x = new LastStirred();
            for (int r : new int[] {-1, 6, Due.LEAST, Due.MOST}) due.is("tear(" + r + ")", x.tear(r), Due.BAD);
        });
        s.of("Promise 5", "NOTHING", due -> {
            LastStirred x = new LastStirred();
            due.finds(x, "tear(0)", x.tear(0), Due.NOTHING);
            x.row(0, 3);
            x.tear(0);
            due.finds(x, "tear(0) again", x.tear(0), Due.NOTHING);
        });
    }

    private static void promise6(Sentences s) {
        s.of("Promise 6", "n places of a ROW, from one on, come to those of another one", due -> {
            LastStirred x = new LastStirred();
            x.row(0, 60);
            for (int i = 0; i < 60; i++) x.lay(0, i, i + 1);
            x.row(5, 60);
            due.is("all: copy(0, 0, 5, 0, 60)", x.copy(0, 0, 5, 0, 60), 1);
            for (int i = 0; i < 60; i++) due.tells(x, "at(5, " + i + ")", x.at(5, i), 1, i + 1);
            Due.row(x, 1, 7, 8, 9);
            due.is("one, the last: copy(0, 59, 1, 2, 1)", x.copy(0, 59, 1, 2, 1), 1);
            due.places(x, 1, 7, 8, 60);
            due.is("none: copy(0, 5, 1, 1, 0)", x.copy(0, 5, 1, 1, 0), 1);
            due.places(x, 1, 7, 8, 60);
            x.row(2, 0);
            due.is("none of none: copy(2, 0, 2, 0, 0)", x.copy(2, 0, 2, 0, 0), 1);
            due.places(x, 2);
        });
        s.of("Promise 6", "(perhaps itself) from one on, as if taken ahead", due -> {
            LastStirred x = new LastStirred();
            Due.row(x, 0, 1, 2, 3, 4, 5);
            due.is("onward", x.copy(0, 0, 0, 1, 4), 1);
            due.places(x, 0, 1, 1, 2, 3, 4);
            Due.row(x, 0, 1, 2, 3, 4, 5);
            due.is("back", x.copy(0, 1, 0, 0, 4), 1);
            due.places(x, 0, 2, 3, 4, 5, 5);
            due.is("all, to where they are", x.copy(0, 0, 0, 0, 5), 1);
            due.places(x, 0, 2, 3, 4, 5, 5);
        });
    }

    private static void promise6Refused(Sentences s) {
        s.of("Promise 6", "BAD", due -> {
            LastStirred x = new LastStirred();
            x.row(0, 1);
            for (int r : new int[] {-1, 6, Due.LEAST, Due.MOST}) {
                due.is("copy(" + r + ", 0, 0, 0, 1)", x.copy(r, 0, 0, 0, 1), Due.BAD);
                due.is("copy(0, 0, " + r + ", 0, 1)", x.copy(0, 0, r, 0, 1), Due.BAD);
            }
        });
        s.of("Promise 6", "SIZE: n below 0", due -> {
            LastStirred x = new LastStirred();
            Due.row(x, 0, 1, 2);
            due.finds(x, "copy(0, 1, 0, 0, -1)", x.copy(0, 1, 0, 0, -1), Due.SIZE);
            due.finds(x, "copy(0, 0, 0, 0, least)", x.copy(0, 0, 0, 0, Due.LEAST), Due.SIZE);
            due.places(x, 0, 1, 2);
        });
        s.of("Promise 6", "NOTHING: either", due -> {
            LastStirred x = new LastStirred();
            x.row(0, 1);
            due.finds(x, "from a missing one", x.copy(1, 0, 0, 0, 1), Due.NOTHING);
            due.finds(x, "to a missing one", x.copy(0, 0, 1, 0, 1), Due.NOTHING);
            due.finds(x, "both missing", x.copy(1, 0, 2, 0, 1), Due.NOTHING);
            due.finds(x, "none, to a missing one", x.copy(0, 0, 1, 0, 0), Due.NOTHING);
            due.finds(x, "none, from a missing one", x.copy(1, 0, 0, 0, 0), Due.NOTHING);
        });
        s.of("Promise 6", "BEYOND: not so many there", due -> {
            LastStirred x = new LastStirred();
            Due.row(x, 0, 1, 2, 3);
            Due.row(x, 1, 7, 8);
            due.finds(x, "one too many to take", x.copy(1, 1, 0, 0, 2), Due.BEYOND);
            due.finds(x, "one too many to come", x.copy(0, 0, 1, 1, 2), Due.BEYOND);
            due.finds(x, "far too many", x.copy(0, 1, 0, 1, Due.MOST), Due.BEYOND);
            due.finds(x, "from the greatest int on", x.copy(0, Due.MOST, 0, 0, 1), Due.BEYOND);
            due.finds(x, "to the greatest int on", x.copy(0, 0, 0, Due.MOST, Due.MOST), Due.BEYOND);
            due.finds(x, "from -1 on", x.copy(0, -1, 1, 0, 2), Due.BEYOND);
            due.finds(x, "to the least int on", x.copy(0, 0, 1, Due.LEAST, 1), Due.BEYOND);
            due.places(x, 0, 1, 2, 3);
            due.places(x, 1, 7, 8);
            due.is("just so many", x.copy(0, 1, 1, 0, 2), 1);
            due.places(x, 1, 2, 3);
        });
        s.of("Promise 6", "(also with n 0, if i, j is below 0, or above its size)", due -> {
            LastStirred x = new LastStirred();
            x.row(0, 3);
            x.row(1, 2);
            due.is("i, j at their size", x.copy(0, 3, 1, 2, 0), 1);
            due.finds(x, "i below 0", x.copy(0, -1, 1, 0, 0), Due.BEYOND);
            due.finds(x, "j below 0", x.copy(0, 0, 1, -1, 0), Due.BEYOND);
            due.finds(x, "i above its size", x.copy(0, 4, 1, 0, 0), Due.BEYOND);
            due.finds(x, "j above its size", x.copy(0, 0, 1, 3, 0), Due.BEYOND);
            due.finds(x, "i the least int", x.copy(0, Due.LEAST, 1, 0, 0), Due.BEYOND);
            due.finds(x, "j the greatest int", x.copy(0, 0, 1, Due.MOST, 0), Due.BEYOND);
        });
        s.of("Promise 6", "(In this order.)", due -> {
            LastStirred x = new LastStirred();
            x.row(0, 1);
            due.is("BAD ahead of SIZE", x.copy(6, 0, 0, 0, -1), Due.BAD);
            due.is("BAD ahead of NOTHING", x.copy(1, 0, 6, 0, 1), Due.BAD);
            due.is("BAD ahead of BEYOND", x.copy(0, 9, -1, 0, 1), Due.BAD);
            due.is("no finding yet", x.finding(), 0);
            due.finds(x, "SIZE ahead of NOTHING", x.copy(1, 0, 0, 0, -1), Due.SIZE);
            due.finds(x, "SIZE ahead of BEYOND", x.copy(0, 9, 0, 9, -1), Due.SIZE);
            due.finds(x, "NOTHING ahead of BEYOND", x.copy(0, 9, 1, 0, 1), Due.NOTHING);
        });
    }

    private static void promise7(Sentences s) {
        s.of("Promise 7", "The mean of a ROW's ints, cut, told by asked(): 1", due -> {
            LastStirred x = new LastStirred();
            Due.row(x, 0, -7);
            due.tells(x, "of one", x.mean(0), 1, -7);
            Due.row(x, 0, 1, 2);
            due.tells(x, "1.5", x.mean(0), 1, 1);
            Due.row(x, 0, -1, -2);
            due.tells(x, "-1.5", x.mean(0), 1, -1);
            Due.row(x, 0, 0, -1);
            due.tells(x, "-0.5", x.mean(0), 1, 0);
            Due.row(x, 0, Due.MOST, Due.MOST, Due.MOST);
            due.tells(x, "a sum above the greatest int", x.mean(0), 1, Due.MOST);
            Due.row(x, 0, Due.LEAST, Due.LEAST, Due.LEAST);
            due.tells(x, "a sum below the least int", x.mean(0), 1, Due.LEAST);
            x.row(0, 60);
            x.lay(0, 0, 59);
            due.tells(x, "of 60, just below 1", x.mean(0), 1, 0);
            x.lay(0, 59, 1);
            due.tells(x, "of 60, just 1", x.mean(0), 1, 1);
            x.row(0, 1);
            due.tells(x, "of the ROW as it is now", x.mean(0), 1, 0);
        });
        s.of("Promise 7", "BAD", due -> {
            LastStirred x = new LastStirred();
            for (int r : new int[] {-1, 6, Due.LEAST, Due.MOST}) due.is("mean(" + r + ")", x.mean(r), Due.BAD);
        });
        s.of("Promise 7", "NOTHING", due -> {
            LastStirred x = new LastStirred();
            due.finds(x, "mean(0)", x.mean(0), Due.NOTHING);
            x.row(0, 1);
            x.tear(0);
            due.finds(x, "mean(0), torn", x.mean(0), Due.NOTHING);
        });
        s.of("Promise 7", "NOUGHT", due -> {
            LastStirred x = new LastStirred();
            x.row(0, 0);
            due.finds(x, "mean(0) of none", x.mean(0), Due.NOUGHT);
            due.is("asked() stays", x.asked(), 0);
        });
    }

    private static void promise8(Sentences s) {
        s.of("Promise 8", "A TEXT is there with n blanks: n", due -> {
            LastStirred x = new LastStirred();
            due.is("text(0, 0)", x.text(0, 0), 0);
            due.is("there is one", x.count(7), 1);
            due.is("text(0, 80)", x.text(0, 80), 80);
            for (int i = 0; i < 80; i++) due.is("put(0, " + i + ", 7)", x.put(0, i, 7), 1032);
            due.is("text(0, 1), there by now", x.text(0, 1), 1);
            due.finds(x, "put(0, 1, 7)", x.put(0, 1, 7), Due.BEYOND);
            due.is("text(0, 80), there by now", x.text(0, 80), 80);
            for (int i = 0; i < 80; i++) due.is("put(0, " + i + ", 7)", x.put(0, i, 7), 1032);
        });
        s.of("Promise 8", "BAD", due -> {
            LastStirred x = new LastStirred();
            for (int t : new int[] {-1, 4, Due.LEAST, Due.MOST}) due.is("text(" + t + ", 1)", x.text(t, 1), Due.BAD);
        });
        s.of("Promise 8", "BAD: also n above 80", due -> {
            LastStirred x = new LastStirred();
            due.is("text(0, 81)", x.text(0, 81), Due.BAD);
            due.is("text(0, greatest)", x.text(0, Due.MOST), Due.BAD);
            due.is("none is there", x.count(7), 0);
            due.is("text(0, 80)", x.text(0, 80), 80);
            due.is("text(0, 61)", x.text(0, 61), 61);
        });
        s.of("Promise 8", "SIZE: below 0", due -> {
            LastStirred x = new LastStirred();
            due.finds(x, "text(0, -1)", x.text(0, -1), Due.SIZE);
            due.finds(x, "text(3, least)", x.text(3, Due.LEAST), Due.SIZE);
            due.is("none is there", x.count(7), 0);
            x.text(0, 1);
            due.finds(x, "text(0, -1)", x.text(0, -1), Due.SIZE);
            due.is("it is there still", x.put(0, 0, 0), 1032);
        });
    }

    private static void promise9(Sentences s) {
        s.of("Promise 9", "Byte i of a TEXT is v, cut to a byte (-128 .. 127): what it was, and 1000 more", due -> {
            LastStirred x = new LastStirred();
            x.text(3, 80);
            int[] laid = {127, 128, 255, 256, -128, -129, Due.MOST, Due.LEAST, 1000, 0};
            int[] is = {127, -128, -1, 0, -128, 127, -1, 0, -24, 0};
            for (int i : new int[] {0, 79}) {
                int was = 32;
                for (int n = 0; n < laid.length; n++) {
                    due.is("put(3, " + i + ", " + laid[n] + ")", x.put(3, i, laid[n]), was + 1000);
                    was = is[n];
                }
            }
            due.is("another byte", x.put(3, 1, 0), 1032);
        });
        s.of("Promise 9", "BAD", due -> {
            LastStirred x = new LastStirred();
            for (int t : new int[] {-1, 4, Due.LEAST, Due.MOST}) {
                due.is("put(" + t + ", 0, 0)", x.put(t, 0, 0), Due.BAD);
            }
        });
        s.of("Promise 9", "NOTHING", due -> {
            LastStirred x = new LastStirred();
            due.finds(x, "put(0, 0, 0)", x.put(0, 0, 0), Due.NOTHING);
            due.finds(x, "put(0, -1, 0), too", x.put(0, -1, 0), Due.NOTHING);
        });
        s.of("Promise 9", "BEYOND", due -> {
            LastStirred x = new LastStirred();
            x.text(0, 0);
            due.finds(x, "put(0, 0, 0) in none", x.put(0, 0, 0), Due.BEYOND);
            x.text(0, 80);
            for (int i : new int[] {-1, 80, Due.LEAST, Due.MOST}) {
                due.finds(x, "put(0, " + i + ", 0)", x.put(0, i, 0), Due.BEYOND);
            }
            x.text(0, 2);
            due.finds(x, "put(0, 2, 0), a byte of the TEXT ahead", x.put(0, 2, 0), Due.BEYOND);
        });
    }

    private static void promise10(Sentences s) {
        s.of("Promise 10", "A FAULT of a TEXT", due -> {
            LastStirred x = new LastStirred();
            x.text(0, 0);
            due.is("of no bytes", x.fault(0), 0);
            x.text(0, 80);
            due.is("of 80 blanks", x.fault(0), 80);
            Due.write(x, 0, "g21..b0");
            due.is("of the TEXT as it is now", x.fault(0), 7);
            x.text(1, 80);
            due.is("of another one", x.fault(1), 80);
            due.is("of the first one", x.fault(0), 7);
            due.is("a FAULT changes nothing: CELLS", x.count(0), 0);
            x = gone();
            Due.write(x, 1, "g21#.b10b00");
            long before = x.digest();
            due.is("beside a GROUND", x.fault(1), 10);
            due.is("the GROUND stays", x.digest(), before);
            due.is("its FLOCK kept in 0", x.on(0), 0);
        });
        s.of("Promise 10", "NONE: there is none", due -> {
            LastStirred x = Due.write(new LastStirred(), 3, "g21..");
            due.is("the shortest", x.fault(3), Due.NONE);
            due.is("no GROUND by it", x.count(0), 0);
            Due.write(x, 3, "g65" + " ".repeat(35) + ".".repeat(30) + "b00b10b20b30");
            due.is("of 80 bytes", x.fault(3), Due.NONE);
            due.is("no finding", x.finding(), 0);
        });
        s.of("Promise 10", "BAD", due -> {
            LastStirred x = new LastStirred();
            for (int t : new int[] {-1, 4, Due.LEAST, Due.MOST}) due.is("fault(" + t + ")", x.fault(t), Due.BAD);
        });
        s.of("Promise 10", "NOTHING", due -> {
            LastStirred x = Due.write(new LastStirred(), 0, "g21..");
            due.finds(x, "fault(1)", x.fault(1), Due.NOTHING);
        });
    }

    /** A FLOCK that went some STEPS, with a LAST and a LAST BUT ONE, and two kept ones. */
    private static LastStirred gone() {
        LastStirred x = Due.flock("g61......c00b30b50");
        x.stir(1, 3);
        x.stir(2, 3);
        x.keep(0);
        x.go(3);
        x.keep(2);
        return x;
    }

    private static void promise11(Sentences s) {
        s.of("Promise 11", "A GROUND by a TEXT (anew", due -> {
            LastStirred x = gone();
            Due.write(x, 0, "g31..#c10");
            due.is("ground(0)", x.ground(0), 1);
            due.is("CELLS", x.count(0), 3);
            due.is("BEASTS", x.count(1), 1);
            due.cells(x, "anew", 1);
            due.tells(x, "it went none", x.beast(0, 2), 1, 0);
            due.tells(x, "a CELL that one had been in", x.cell(0), 0, Due.NONE);
            due.is("a CELL that is no more", x.cell(3), Due.BAD);
            due.is("a BEAST that is no more", x.beast(1, 0), Due.BAD);
            Due.write(x, 0, "g65" + "=".repeat(30));
            due.is("ground(0), greater", x.ground(0), 0);
            due.tells(x, "the last CELL", x.cell(29), 4, Due.NONE);
            due.is("the TEXT is not the GROUND", x.put(0, 3, '#'), 1061);
            due.is("cell(0)", x.cell(0), 4);
        });
        s.of("Promise 11", "STEP 0", due -> {
            LastStirred x = gone();
            due.is("ahead", x.count(3), 3);
            x.ground(0);
            due.is("behind", x.count(3), 0);
        });
        s.of("Promise 11", "no LAST", due -> {
            LastStirred x = gone();
            x.ground(0);
            due.last(x, "ground(0)", Due.NONE, Due.NONE);
            due.is("none goes", x.go(2), 0);
            x.stir(2, 3);
            due.is("no LAST BUT ONE: the CHASER after the LAST", x.mark(0, 3), 4);
        });
        s.of("Promise 11", "kept FLOCKS go", due -> {
            LastStirred x = gone();
            due.is("ahead", x.count(5), 2);
            x.ground(0);
            due.is("behind", x.count(5), 0);
            due.finds(x, "on(0)", x.on(0), Due.NOTHING);
            due.finds(x, "on(1)", x.on(1), Due.NOTHING);
            due.finds(x, "on(2)", x.on(2), Due.NOTHING);
        });
        s.of("Promise 11", "how many BEASTS", due -> {
            String[] texts = {"g41....", "g41....b00", "g41....b00s10", "g41....b00s10l20", "g41....b00s10l20t30"};
            LastStirred x = new LastStirred();
            for (int n = 0; n <= 4; n++) {
                Due.write(x, 0, texts[n]);
                due.is("ground of " + n, x.ground(0), n);
            }
        });
    }

    private static void promise11Refused(Sentences s) {
        s.of("Promise 11", "BAD", due -> {
            LastStirred x = gone();
            for (int t : new int[] {-1, 4, Due.LEAST, Due.MOST}) due.is("ground(" + t + ")", x.ground(t), Due.BAD);
            due.is("it stays", x.count(3), 3);
        });
        s.of("Promise 11", "NOTHING", due -> {
            LastStirred x = gone();
            due.finds(x, "ground(1)", x.ground(1), Due.NOTHING);
            due.is("it stays", x.count(3), 3);
        });
        s.of("Promise 11", "STATE: a FAULT", due -> {
            LastStirred x = gone();
            for (String text : new String[] {"", "g21.", "g31#.ob00", "g61......b00b10b20b30b40", "g65" + ".".repeat(30) + "x"}) {
                Due.write(x, 1, text);
                long before = x.digest();
                due.is("ground of «" + text + "»", x.ground(1), Due.STATE);
                due.is("it stays", x.digest(), before);
            }
            due.is("a kept one", x.on(0), 0);
            due.is("no finding", x.finding(), 0);
        });
        s.of("Promise 11", "(STATE behind NOTHING.)", due -> {
            LastStirred x = new LastStirred();
            due.finds(x, "missing, so it is no GROUND either", x.ground(0), Due.NOTHING);
            x.text(0, 0);
            due.is("there, but no GROUND", x.ground(0), Due.STATE);
        });
    }

    private static void promise12(Sentences s) {
        s.of("Promise 12", "What a CELL is (0 GRASS, 1 a WALL, 2 WATER, 3 FOLD, 4 a GATE)", due -> {
            LastStirred x = Due.flock("g51.#~o=");
            for (int c = 0; c < 5; c++) due.is("cell(" + c + ")", x.cell(c), c);
            x = Due.flock("g65" + ".".repeat(29) + "o");
            due.is("the first", x.cell(0), 0);
            due.is("the last", x.cell(29), 3);
        });
        s.of("Promise 12", "who is in it by asked() (NONE)", due -> {
            LastStirred x = Due.flock("g51....~b30s00l10t20");
            for (int c = 0; c < 4; c++) due.tells(x, "cell(" + c + ")", x.cell(c), 0, (c + 1) % 4);
            due.tells(x, "nobody is in it", x.cell(4), 2, Due.NONE);
            x.stir(0, 1);
            due.tells(x, "nor who was LOST in it", x.cell(4), 2, Due.NONE);
            due.tells(x, "whom it left", x.cell(3), 0, Due.NONE);
        });
        s.of("Promise 12", "BAD", due -> {
            LastStirred x = Due.flock("g65" + ".".repeat(30));
            for (int c : new int[] {-1, 30, -9, Due.LEAST, Due.MOST}) due.is("cell(" + c + ")", x.cell(c), Due.BAD);
            due.is("of the greatest GROUND the last", x.cell(29), 0);
            x = Due.flock("g21..");
            due.is("cell(2) of two", x.cell(2), Due.BAD);
            due.is("cell(0), no GROUND", new LastStirred().cell(0), Due.BAD);
        });
    }

    private static void promise13(Sentences s) {
        s.of("Promise 13", "A CELL becomes such: what it was", due -> {
            for (int was = 0; was < 5; was++) {
                for (int what = 0; what < 5; what++) {
                    LastStirred x = Due.flock("g21." + ".#~o=".charAt(was));
                    due.is("build(1, " + what + ")", x.build(1, what), was);
                    due.is("cell(1)", x.cell(1), what);
                    due.is("another one", x.cell(0), 0);
                }
            }
            due.is("the last of 30", Due.flock("g65" + ".".repeat(29) + "=").build(29, 0), 4);
        });
        s.of("Promise 13", "BAD", due -> {
            LastStirred x = Due.flock("g21.=b00");
            for (int c : new int[] {-1, 2, Due.LEAST, Due.MOST}) due.is("build(" + c + ", 0)", x.build(c, 0), Due.BAD);
            for (int w : new int[] {-1, 5, Due.LEAST, Due.MOST}) due.is("build(1, " + w + ")", x.build(1, w), Due.BAD);
            due.is("it stays", x.cell(1), 4);
            due.is("build(0, 0), no GROUND", new LastStirred().build(0, 0), Due.BAD);
        });
        s.of("Promise 13", "STATE: a BEAST is there, and it would be a WALL or WATER", due -> {
            LastStirred x = Due.flock("g41.~..b00b20");
            due.is("a WALL", x.build(0, 1), Due.STATE);
            due.is("WATER", x.build(2, 2), Due.STATE);
            due.is("it stays", x.cell(0), 0);
            due.is("a GATE", x.build(0, 4), 0);
            due.is("the FOLD", x.build(0, 3), 4);
            due.is("GRASS", x.build(0, 0), 3);
            x.stir(0, 1);
            due.is("where one was LOST: a WALL", x.build(1, 1), 2);
            due.is("which it left: WATER", x.build(0, 2), 0);
            due.is("where nobody is: a WALL", x.build(3, 1), 0);
        });
    }

    private static void promise14(Sentences s) {
        s.of("Promise 14", "Of a BEAST: 0 its KIND", due -> {
            LastStirred x = Due.flock("g41...~b00t10m20");
            due.tells(x, "the least KIND", x.beast(0, 0), 1, 0);
            due.tells(x, "the greatest KIND", x.beast(1, 0), 1, 5);
            x.stir(2, 1);
            due.tells(x, "of a LOST one", x.beast(2, 0), 1, 4);
        });
        s.of("Promise 14", "1 its CELL (NONE: LOST)", due -> {
            LastStirred x = Due.flock("g65" + ".".repeat(28) + "~.b00b54");
            due.tells(x, "the first CELL", x.beast(0, 1), 1, 0);
            due.tells(x, "the last CELL", x.beast(1, 1), 1, 29);
            x.stir(1, 3);
            due.tells(x, "LOST", x.beast(1, 1), 1, Due.NONE);
        });
        s.of("Promise 14", "2 how many CELLS it went since the GROUND came", due -> {
            LastStirred x = Due.flock("g61.~....b20b50");
            due.tells(x, "none", x.beast(0, 2), 1, 0);
            x.stir(1, 3);
            due.tells(x, "by a STIRRING", x.beast(1, 2), 1, 1);
            due.tells(x, "not by another one's", x.beast(0, 2), 1, 0);
            x.go(1);
            due.tells(x, "by a STEP", x.beast(0, 2), 1, 1);
            x.go(10);
            due.tells(x, "not by STEPS in which it stays", x.beast(0, 2), 1, 1);
            x.stone(4);
            due.tells(x, "by a stone", x.beast(0, 2), 1, 2);
            x.stir(0, 0);
            due.tells(x, "not by what CAN't be", x.beast(0, 2), 1, 2);
            x.fewest();
            x.worth(0, 3);
            due.tells(x, "not by what is only tried", x.beast(0, 2), 1, 2);
            x.stir(0, 3);
            due.tells(x, "into WATER, too", x.beast(0, 2), 1, 3);
            x.ground(0);
            due.tells(x, "the GROUND came anew", x.beast(0, 2), 1, 0);
        });
        s.of("Promise 14", "BAD", due -> {
            LastStirred x = Due.flock("g21..b00b10");
            for (int k : new int[] {-1, 2, Due.LEAST, Due.MOST}) due.is("beast(" + k + ", 0)", x.beast(k, 0), Due.BAD);
            for (int w : new int[] {-1, 3, Due.LEAST, Due.MOST}) due.is("beast(0, " + w + ")", x.beast(0, w), Due.BAD);
            due.is("beast(4, 0) of four", Due.flock("g41....b00b10b20b30").beast(4, 0), Due.BAD);
            due.is("beast(0, 0) of none", Due.flock("g21..").beast(0, 0), Due.BAD);
        });
    }

    private static void promise15(Sentences s) {
        s.of("Promise 15", "What a BEAST that IS of a KIND tells", due -> {
            String[] kinds = {"b", "s", "l", "c", "m", "t"};
            int[][] of = {{}, {1}, {2}, {3}, {2, 4}, {1, 5}};
            for (int k = 0; k < 6; k++) {
                LastStirred x = Due.flock("g21.." + kinds[k] + "00");
                int told = 0;
                for (int kind = 1; kind < 6; kind++) if (x.mark(0, kind) != Due.FINDING) told |= 1 << kind;
                int want = 0;
                for (int kind : of[k]) want |= 1 << kind;
                due.is("the KINDS that " + kinds[k] + " is", told, want);
            }
        });
        s.of("Promise 15", "a SHY one (TIMID, too) how far OFF the LAST it is", due -> {
            LastStirred x = Due.flock("g33.........s00t22");
            x.stir(1, 0);
            due.is("SHY: two across, one down", x.mark(0, 1), 3);
            due.is("TIMID, the LAST itself", x.mark(1, 1), 0);
            x.stir(0, 1);
            due.is("SHY, the LAST itself", x.mark(0, 1), 0);
            due.is("TIMID: one across, one down", x.mark(1, 1), 2);
            x = Due.flock("g65" + ".".repeat(30) + "s54b10");
            x.stir(1, 3);
            due.is("from end to end", x.mark(0, 1), 9);
        });
        s.of("Promise 15", "(NONE: no LAST, LOST)", due -> {
            LastStirred x = Due.flock("g41.~..s00t20b30");
            due.is("SHY, no LAST", x.mark(0, 1), Due.NONE);
            due.is("TIMID, no LAST", x.mark(1, 1), Due.NONE);
            x.stir(0, 1);
            due.is("SHY, LOST", x.mark(0, 1), Due.NONE);
            due.is("TIMID: the LAST was LOST, but has its CELL", x.mark(1, 1), 1);
            x.stir(1, 3);
            due.is("TIMID, LOST", x.mark(1, 1), Due.NONE);
        });
        s.of("Promise 15", "a SLOW one (LAME, too) in how many STEPS it may go again (0, 1)", due -> {
            for (int step : new int[] {0, 1, 2, 3, 40, 9999, 10000}) {
                LastStirred x = Due.flockAt("g21..l00m10", step);
                due.is("SLOW at STEP " + step, x.mark(0, 2), step % 2);
                due.is("LAME at STEP " + step, x.mark(1, 2), step % 2);
            }
        });
        s.of("Promise 15", "a CHASER the CELL of its AIM (NONE)", due -> {
            LastStirred x = Due.flock("g41...~c00b10b20");
            due.is("no LAST", x.mark(0, 3), Due.NONE);
            due.is("the LAST, LOST at 3", x.stir(2, 1), 3);
            due.is("no LAST BUT ONE: the LAST's", x.mark(0, 3), 3);
            x.stir(1, 1);
            due.is("the LAST BUT ONE's", x.mark(0, 3), 3);
            x.stir(1, 3);
            due.is("the LAST BUT ONE's, the same", x.mark(0, 3), 2);
        });
    }

    private static void promise15Bounds(Sentences s) {
        s.of("Promise 15", "a LAME one how many GATES there are", due -> {
            LastStirred x = Due.flock("g21..m00");
            due.is("none", x.mark(0, 4), 0);
            x.build(0, 4);
            due.is("one, the first, under it", x.mark(0, 4), 1);
            x.build(1, 4);
            due.is("two, the last one, too", x.mark(0, 4), 2);
            x = Due.flock("g65" + "=".repeat(30) + "m00");
            due.is("all 30", x.mark(0, 4), 30);
            x.build(29, 0);
            due.is("29", x.mark(0, 4), 29);
            Due.write(x, 0, "g31=..m10");
            x.ground(0);
            due.is("those of a GROUND ahead are gone", x.mark(0, 4), 1);
        });
        s.of("Promise 15", "a TIMID one how many others are less than 3 OFF it (LOST: NONE)", due -> {
            LastStirred x = Due.flock("g33.........t00b20");
            due.is("one 2 OFF", x.mark(0, 5), 1);
            x.stir(1, 2);
            due.is("one 3 OFF", x.mark(0, 5), 0);
            due.is("alone", Due.flock("g21..t00").mark(0, 5), 0);
            due.is("three", Due.flock("g41....b00t10b20b30").mark(1, 5), 3);
            x = Due.flock("g41.~..t00b20b30");
            due.is("one 2 OFF, one 3 OFF", x.mark(0, 5), 1);
            x.stir(1, 3);
            due.is("a LOST one is none", x.mark(0, 5), 0);
            x.stir(0, 1);
            due.is("LOST itself", x.mark(0, 5), Due.NONE);
        });
        s.of("Promise 15", "BAD", due -> {
            LastStirred x = Due.flock("g21..s00t10");
            for (int k : new int[] {-1, 2, Due.LEAST, Due.MOST}) due.is("mark(" + k + ", 1)", x.mark(k, 1), Due.BAD);
            for (int w : new int[] {-1, 6, Due.LEAST, Due.MOST}) due.is("mark(0, " + w + ")", x.mark(0, w), Due.BAD);
        });
        s.of("Promise 15", "BAD: also KIND 0", due -> {
            LastStirred x = Due.flock("g21..b00s10");
            due.is("of one that is of it", x.mark(0, 0), Due.BAD);
            due.is("of another one", x.mark(1, 0), Due.BAD);
        });
        s.of("Promise 15", "UNLIKE", due -> {
            LastStirred x = Due.flock("g41....b00s10l20c30");
            for (int kind = 1; kind < 6; kind++) due.finds(x, "BEAST, " + kind, x.mark(0, kind), Due.UNLIKE);
            due.finds(x, "SHY is no TIMID", x.mark(1, 5), Due.UNLIKE);
            due.finds(x, "SLOW is no LAME", x.mark(2, 4), Due.UNLIKE);
            due.finds(x, "CHASER is no SHY", x.mark(3, 1), Due.UNLIKE);
            x = Due.flock("g21..m00t10");
            due.finds(x, "LAME is no TIMID", x.mark(0, 5), Due.UNLIKE);
            due.finds(x, "LAME is no SHY", x.mark(0, 1), Due.UNLIKE);
            due.finds(x, "TIMID is no LAME", x.mark(1, 4), Due.UNLIKE);
            due.finds(x, "TIMID is no SLOW", x.mark(1, 2), Due.UNLIKE);
        });
    }

    private static void promise16(Sentences s) {
        s.of("Promise 16", "The LAST (NONE); its CELL by asked() (NONE)", due -> {
            LastStirred x = new LastStirred();
            Due.row(x, 0, 5);
            x.mean(0);
            due.last(x, "no GROUND", Due.NONE, Due.NONE);
            x = Due.flock("g41..~.b00b10b30");
            x.cell(1);
            due.last(x, "none has stirred", Due.NONE, Due.NONE);
            x.stir(2, 1);
            due.last(x, "none CAN", Due.NONE, Due.NONE);
            x.stir(1, 1);
            due.last(x, "LOST: the CELL of the WATER", 1, 2);
            x.go(1);
            due.last(x, "by a STEP", 0, 1);
            x.stone(0);
            due.last(x, "by a stone", 0, 2);
        });
    }
}
