import java.lang.reflect.Method;
import java.lang.reflect.Modifier;
import java.util.ArrayList;
import java.util.List;
import java.util.StringJoiner;
import java.util.function.Supplier;

/** Every call with every mix of such numbers, on objects in all kinds of states. */
final class AnyCall {
    private static final int[] NUMBERS = {Due.LEAST, -1001, -10, -9, -1, 0, 1, 2, 3, 4, 5, 6, 7, 8, 15, 16, 29, 30, 40, 41,
        59, 60, 61, 80, 81, 10001, Due.MOST};
    private static final int[] FEW_NUMBERS = {Due.LEAST, -1, 0, 1, 2, 5, 6, 60, 61, Due.MOST};
    private static final int MANY = 3;

    interface Held {
        void hold(LastStirred x, String state, Method call, Object... numbers) throws ReflectiveOperationException;
    }

    private record State(String name, Supplier<LastStirred> made) {
    }

    private static final List<State> STATES = List.of(
            new State("new", LastStirred::new),
            new State("rows and texts, no ground", () -> shelved(new LastStirred())),
            new State("a ground without beasts", () -> Due.flock("g21.o")),
            new State("a flock that none stirred", () -> shelved(Due.flock("g65#~=..." + ".".repeat(24) + "s22m32t23c33"))),
            new State("a flock on the way", AnyCall::onTheWay),
            new State("one lost", AnyCall::oneLost),
            new State("all lost", AnyCall::allLost),
            new State("no room to go", () -> shelved(Due.flock("g22oo.=b00c10l01"))),
            new State("in a wall and in water", AnyCall::inWalls),
            new State("one step ahead of the last", () -> shelved(Due.flockAt("g53..#.....=o..~..b01l11t32", 9999))));

    private AnyCall() {
    }

    static List<Method> face() {
        List<Method> face = new ArrayList<>();
        for (Method m : LastStirred.class.getDeclaredMethods()) {
            if (Modifier.isPublic(m.getModifiers())) face.add(m);
        }
        return face;
    }

    static String told(String state, Method call, Object... numbers) {
        StringJoiner all = new StringJoiner(", ", state + ": " + call.getName() + "(", ")");
        for (Object n : numbers) all.add(n.toString());
        return all.toString();
    }

    /** What it answers; what it throws is thrown on. */
    static long answer(LastStirred x, Method call, Object... numbers) throws ReflectiveOperationException {
        return ((Number) call.invoke(x, numbers)).longValue();
    }

    static void all(Held held) throws ReflectiveOperationException {
        for (State state : STATES) {
            for (Method call : face()) {
                // One object for all numbers: what they change is a state, too.
                mix(state.made.get(), state.name, call, new Object[call.getParameterCount()], 0, held);
            }
        }
    }

    private static void mix(LastStirred x, String state, Method call, Object[] numbers, int from, Held held)
            throws ReflectiveOperationException {
        if (from == numbers.length) {
            held.hold(x, state, call, numbers);
            return;
        }
        for (int n : numbers.length > MANY ? FEW_NUMBERS : NUMBERS) {
            numbers[from] = n;
            mix(x, state, call, numbers, from + 1, held);
        }
    }

    // ---- states

    /** Rows and texts of all sorts, in an object with or without a ground; asked() tells what no other call would. */
    private static LastStirred shelved(LastStirred x) {
        x.row(0, 0);
        Due.row(x, 1, 1, 3);
        x.where(2);
        Due.row(x, 3, 40, -8, 7, 7);
        x.row(4, 60);
        x.at(3, 1);
        Due.write(x, 1, "g53.");
        Due.write(x, 2, "g31o~o b00 l20");
        return x;
    }

    private static LastStirred onTheWay() {
        LastStirred x = Due.flock("g65" + ".....o".repeat(2) + "~.=.#." + "......".repeat(2) + "b01s33c54m20");
        x.keep(0);
        x.stir(0, 1);
        x.go(1);
        x.stir(2, 3);
        x.keep(1);
        x.ways(1);
        return shelved(x);
    }

    private static LastStirred oneLost() {
        LastStirred x = Due.flock("g51~...ob10t30");
        x.stir(0, 3);
        return shelved(x);
    }

    private static LastStirred allLost() {
        LastStirred x = Due.flock("g51~...~b10t30");
        x.stir(0, 3);
        x.stir(1, 1);
        return shelved(x);
    }

    private static LastStirred inWalls() {
        LastStirred x = Due.flock("g51.....b10t30c40");
        x.keep(0);
        x.stir(0, 3);
        x.build(1, 1);
        x.stir(1, 3);
        x.build(3, 2);
        x.on(0);
        return shelved(x);
    }
}
