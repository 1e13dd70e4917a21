import java.io.ByteArrayOutputStream;
import java.io.IOException;
import java.io.PrintStream;
import java.lang.reflect.Method;
import java.net.URL;
import java.net.URLClassLoader;
import java.nio.file.Files;
import java.nio.file.Path;
import java.util.HashMap;
import java.util.Map;
import java.util.Set;
import java.util.TreeSet;
import java.util.regex.Matcher;
import java.util.regex.Pattern;
import javax.tools.ToolProvider;

/** What README.md says of the class: its program prints what it says, its table names the calls and their refusals. */
public final class ReadmeTest {
    private static final Due due = new Due("readme");
    private static final String[] FINDINGS = {"", "NOTHING", "BEYOND", "UNLIKE", "NOUGHT", "SIZE"};
    private static final Map<Long, String> REFUSALS = Map.of(-1L, "BAD", -2L, "FULL", -4L, "STATE", -6L, "SPENT");

    private static String between(String text, String from, String to) {
        int begin = text.indexOf(from);
        if (begin < 0) return "";
        int end = text.indexOf(to, begin + from.length());
        return end < 0 ? "" : text.substring(begin + from.length(), end);
    }

    // ---- the program

    private static String printed(Path out) throws IOException, ReflectiveOperationException {
        ByteArrayOutputStream bytes = new ByteArrayOutputStream();
        PrintStream before = System.out;
        System.setOut(new PrintStream(bytes, true));
        try (URLClassLoader loader = new URLClassLoader(new URL[] {out.toUri().toURL()})) {
            Method main = loader.loadClass("Yours").getMethod("main", String[].class);
            main.invoke(null, (Object) new String[0]);
        } finally {
            System.setOut(before);
        }
        return bytes.toString();
    }

    private static void program(String readme) throws IOException, ReflectiveOperationException {
        Path out = Files.createTempDirectory("readme");
        Path source = out.resolve("Yours.java");
        Files.writeString(source, between(readme, "```java\n", "```"));
        int compiled = ToolProvider.getSystemJavaCompiler().run(null, null, null, "-cp",
                System.getProperty("java.class.path"), "-d", out.toString(), source.toString());
        due.is("the program compiles", compiled, 0);
        if (compiled == 0) {
            String want = between(readme, "```text\n", "```");
            String got = printed(out);
            due.is("the program prints\n" + got + "and not\n" + want, got.lines().toList().equals(want.lines().toList()) ? 1 : 0, 1);
        }
        for (String file : new String[] {"Yours.class", "Yours.java", ""}) Files.deleteIfExists(out.resolve(file));
    }

    // ---- the table

    /** By calls, as "name/how many numbers": the refusals that the table tells. */
    private static Map<String, Set<String>> table(String readme) {
        Map<String, Set<String>> table = new HashMap<>();
        Pattern line = Pattern.compile("^\\| `(\\w+)\\(([^)]*)\\)` \\|.*\\|([^|]*)\\|$", Pattern.MULTILINE);
        Matcher m = line.matcher(readme);
        while (m.find()) {
            int numbers = m.group(2).isEmpty() ? 0 : m.group(2).split(",").length;
            Set<String> refusals = new TreeSet<>();
            for (String one : m.group(3).trim().split(", ")) if (!one.isEmpty()) refusals.add(one);
            Object was = table.put(m.group(1) + "/" + numbers, refusals);
            due.is(m.group(1) + " stands in the table once", was == null ? 1 : 0, 1);
        }
        return table;
    }

    private static String nameOf(Method call) {
        return call.getName() + "/" + call.getParameterCount();
    }

    private static void note(Map<String, Set<String>> seen, LastStirred x, Method call, Object... numbers)
            throws ReflectiveOperationException {
        Set<String> refusals = seen.computeIfAbsent(nameOf(call), k -> new TreeSet<>());
        long answer = AnyCall.answer(x, call, numbers);
        boolean answersWhatStands = Set.of("asked", "upper", "lower", "digest").contains(call.getName());
        if (answersWhatStands) return;
        if (answer == Due.FINDING) refusals.add(FINDINGS[x.finding()]);
        if (REFUSALS.containsKey(answer)) refusals.add(REFUSALS.get(answer));
    }

    private static void refusals(String readme) throws ReflectiveOperationException {
        Map<String, Set<String>> told = table(readme);
        Map<String, Set<String>> seen = new HashMap<>();
        AnyCall.all((x, state, call, numbers) -> note(seen, x, call, numbers));
        due.is("the table names the calls: " + told.keySet(), told.keySet().equals(seen.keySet()) ? 1 : 0, 1);
        for (String call : seen.keySet()) {
            due.is(call + " is refused by " + seen.get(call) + ", told is " + told.get(call),
                    seen.get(call).equals(told.get(call)) ? 1 : 0, 1);
        }
    }

    public static void main(String[] args) throws Exception {
        String readme = Files.readString(Path.of("README.md"));
        program(readme);
        refusals(readme);
        due.end();
    }
}
