/** What a test is made of: grounds, and calls with the answers that are due. */
final class Due {
    static final int BAD = -1, FINDING = -3, STATE = -4, SPENT = -6, NONE = -9;
    static final int LEAST = Integer.MIN_VALUE, MOST = Integer.MAX_VALUE;
    static final int NOTHING = 1, BEYOND = 2, UNLIKE = 3, NOUGHT = 4, SIZE = 5;

    private final String test;
    private int calls;
    private int wrong;

    Due(String name) {
        test = name;
    }

    void is(String call, long got, long want) {
        calls++;
        if (got == want) return;
        wrong++;
        System.out.println(test + ": " + call + " answered " + got + ", due is " + want);
    }

    /** An answer and what asked() tells behind it. */
    void tells(LastStirred x, String call, long got, long want, long asked) {
        is(call, got, want);
        is(call + ", asked()", x.asked(), asked);
    }

    void fewest(String what, String ground, int want, int asked) {
        LastStirred x = flock(ground);
        tells(x, "fewest() on " + ground + ", " + what, x.fewest(), want, asked);
    }

    /** A refusal by a finding: counted, and nothing else changed. */
    void finds(LastStirred x, String call, long got, int finding) {
        is(call, got, FINDING);
        is(call + ", finding()", x.finding(), finding);
    }

    void cells(LastStirred x, String behind, int... want) {
        for (int k = 0; k < want.length; k++) tells(x, behind + ", cell of beast " + k, x.beast(k, 1), 1, want[k]);
    }

    void places(LastStirred x, int r, int... want) {
        for (int i = 0; i < want.length; i++) tells(x, "at(" + r + ", " + i + ")", x.at(r, i), 1, want[i]);
        finds(x, "at(" + r + ", " + want.length + ")", x.at(r, want.length), BEYOND);
    }

    void last(LastStirred x, String behind, int beast, int cell) {
        tells(x, behind + ", last()", x.last(), beast, cell);
    }

    int wrong() {
        return wrong;
    }

    void end() {
        System.out.println(test + ": " + calls + " answers, " + wrong + " not as due");
        if (wrong != 0) System.exit(1);
    }

    static LastStirred write(LastStirred x, int t, String text) {
        x.text(t, text.length());
        for (int i = 0; i < text.length(); i++) x.put(t, i, text.charAt(i));
        return x;
    }

    static LastStirred flock(String ground) {
        LastStirred x = write(new LastStirred(), 0, ground);
        if (x.ground(0) < 0) throw new IllegalArgumentException("no ground: " + ground);
        return x;
    }

    /** Such a flock, gone on to a step: none has stirred yet, so none has moved. */
    static LastStirred flockAt(String ground, int step) {
        LastStirred x = flock(ground);
        goTo(x, step);
        return x;
    }

    static void goTo(LastStirred x, int step) {
        while (x.count(3) < step) x.go(Math.min(40, step - x.count(3)));
    }

    static void row(LastStirred x, int r, int... places) {
        x.row(r, places.length);
        for (int i = 0; i < places.length; i++) x.lay(r, i, places[i]);
    }
}
