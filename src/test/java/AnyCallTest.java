import java.lang.reflect.InvocationTargetException;
import java.lang.reflect.Method;
import java.util.Set;

/** No call throws, whatever its numbers and the state, and what a call may not change stays. */
public final class AnyCallTest {
    private static final Due due = new Due("any call");
    private static final Set<Integer> REFUSALS = Set.of(-1, -2, -3, -4, -6);
    /** These answer what stands: a number below 0 is no refusal. */
    private static final Set<String> TELLS_WHAT_STANDS = Set.of("asked", "upper", "lower", "finding", "digest");
    private static final Set<String> CHANGES = Set.of("row", "lay", "tear", "copy", "text", "put", "ground", "build", "stir",
            "go", "run", "where", "keep", "on", "stone", "drive");
    private static final Set<String> TELLS_BY_ASKED = Set.of("lay", "at", "mean", "cell", "beast", "last", "run", "ring",
            "fewest", "gather", "part", "worth", "drive", "never", "wolf", "dawn", "who");
    private static final Set<String> CAN_BE_NONE = Set.of("fault", "mark", "last", "ring", "fewest", "gather", "part", "dawn",
            "who", "breed");
    private static int calls;

    /** What is told ahead of a call, and behind it. */
    private record Look(int asked, long upper, long lower, long digest, int finding, int[] findings) {
        static Look at(LastStirred x) {
            int[] findings = new int[6];
            for (int f = 1; f < findings.length; f++) findings[f] = x.findings(f);
            return new Look(x.asked(), x.upper(), x.lower(), x.digest(), x.finding(), findings);
        }
    }

    /** Counts only what is wrong: there are too many calls to tell of each. */
    private static void is(String call, String what, long is, long want) {
        if (is != want) due.is(call + ", " + what, is, want);
    }

    private static void findings(String told, boolean finds, Look was, Look is) {
        if (!finds) is(told, "finding()", is.finding, was.finding);
        for (int f = 1; f < is.findings.length; f++) {
            boolean thisOne = finds && f == is.finding;
            is(told, "findings(" + f + ")", is.findings[f], was.findings[f] + (thisOne ? 1 : 0));
        }
        if (finds) is(told, "finding() is 1 .. 5", is.finding >= 1 && is.finding <= 5 ? 1 : 0, 1);
    }

    private static void hold(LastStirred x, String state, Method call, Object... numbers)
            throws ReflectiveOperationException {
        String told = AnyCall.told(state, call, numbers);
        String name = call.getName();
        Look was = Look.at(x);
        long answer;
        try {
            answer = AnyCall.answer(x, call, numbers);
        } catch (InvocationTargetException e) {
            due.is(told + " throws " + e.getCause(), 1, 0);
            return;
        }
        calls++;
        Look is = Look.at(x);
        boolean tellsWhatStands = TELLS_WHAT_STANDS.contains(name);
        boolean refused = !tellsWhatStands && REFUSALS.contains((int) answer);
        if (refused || !CHANGES.contains(name)) is(told, "digest()", is.digest, was.digest);
        if (refused || answer == Due.NONE && !name.equals("last") || !TELLS_BY_ASKED.contains(name)) {
            is(told, "asked()", is.asked, was.asked);
        }
        if (refused || !name.equals("ways")) {
            is(told, "upper()", is.upper, was.upper);
            is(told, "lower()", is.lower, was.lower);
        }
        findings(told, refused && answer == Due.FINDING, was, is);
        if (!refused && !tellsWhatStands && answer < 0) {
            is(told, "an answer below 0 is NONE", answer, Due.NONE);
            is(told, "can be NONE", CAN_BE_NONE.contains(name) ? 1 : 0, 1);
        }
    }

    public static void main(String[] args) throws ReflectiveOperationException {
        AnyCall.all(AnyCallTest::hold);
        due.is("many calls", calls > 100_000 ? 1 : 0, 1);
        System.out.println("any call: " + calls + " calls");
        due.end();
    }
}
