import java.io.ByteArrayOutputStream;
import java.io.IOException;
import java.io.InputStream;
import java.io.OutputStream;
import java.io.PrintStream;
import java.net.URI;
import java.nio.file.Files;
import java.nio.file.Path;
import java.util.ArrayList;
import java.util.HashMap;
import java.util.HashSet;
import java.util.List;
import java.util.Map;
import java.util.Set;
import java.util.concurrent.atomic.AtomicInteger;
import javax.tools.FileObject;
import javax.tools.ForwardingJavaFileManager;
import javax.tools.JavaCompiler;
import javax.tools.JavaFileManager;
import javax.tools.JavaFileObject;
import javax.tools.SimpleJavaFileObject;
import javax.tools.StandardJavaFileManager;
import javax.tools.ToolProvider;

/**
 * Breaks the class sentence by sentence, each time alone, as src/test/breaks.txt tells, and looks whether the
 * sentence's own test fails then. It holds the tests, not the class, so .ci/run goes without it.
 */
public final class Breaks {
    private static final Path SOURCE = Path.of("src/main/java/LastStirred.java");
    private static final Path TOLD = Path.of("src/test/breaks.txt");
    private static final long MOST_MILLIS = 30_000;
    private static final PrintStream OUT = System.out;

    private record Break(String sentence, String behind, String old, String young) {
    }

    /** What the compiler writes, kept in memory. */
    private static final class Memory extends ForwardingJavaFileManager<StandardJavaFileManager> {
        final Map<String, ByteArrayOutputStream> classes = new HashMap<>();

        Memory(StandardJavaFileManager files) {
            super(files);
        }

        @Override
        public JavaFileObject getJavaFileForOutput(JavaFileManager.Location place, String name, JavaFileObject.Kind kind,
                FileObject beside) {
            return new SimpleJavaFileObject(URI.create("memory:///" + name + ".class"), kind) {
                @Override
                public OutputStream openOutputStream() {
                    ByteArrayOutputStream out = new ByteArrayOutputStream();
                    classes.put(name, out);
                    return out;
                }
            };
        }
    }

    /** The broken class, and every test anew, since it must meet the broken class. */
    private static final class Anew extends ClassLoader {
        private final Map<String, ByteArrayOutputStream> broken;

        Anew(Map<String, ByteArrayOutputStream> classes) {
            super(ClassLoader.getPlatformClassLoader());
            broken = classes;
        }

        @Override
        protected Class<?> findClass(String name) throws ClassNotFoundException {
            try (InputStream in = Breaks.class.getResourceAsStream("/" + name + ".class")) {
                if (in == null) throw new ClassNotFoundException(name);
                byte[] b = broken.containsKey(name) ? broken.get(name).toByteArray() : in.readAllBytes();
                return defineClass(name, b, 0, b.length);
            } catch (IOException e) {
                throw new ClassNotFoundException(name, e);
            }
        }
    }

    /** Without the blanks ahead of the lines, which a break does not tell. */
    private static String plain(List<String> lines) {
        StringBuilder all = new StringBuilder();
        for (String line : lines) all.append(line.strip()).append('\n');
        return all.toString();
    }

    private static List<Break> told() throws IOException {
        List<Break> breaks = new ArrayList<>();
        String sentence = "", behind = "";
        List<String> old = new ArrayList<>(), young = new ArrayList<>();
        List<String> lines = new ArrayList<>(Files.readAllLines(TOLD));
        lines.add("");
        for (String line : lines) {
            boolean goesOn = line.startsWith("+") || line.startsWith("-") && young.isEmpty();
            if (!goesOn && !old.isEmpty()) {
                breaks.add(new Break(sentence, behind, String.join("\n", old), String.join("\n", young)));
                old.clear();
                young.clear();
                behind = "";
            }
            String rest = line.length() > 1 ? line.substring(1).strip() : "";
            if (line.startsWith("=")) sentence = rest;
            if (line.startsWith("@")) behind = rest;
            if (line.startsWith("-")) old.add(rest);
            if (line.startsWith("+")) young.add(rest);
        }
        return breaks;
    }

    private static String broken(String source, Break b) {
        int from = b.behind.isEmpty() ? 0 : source.indexOf(b.behind);
        int at = from < 0 ? -1 : source.indexOf(b.old, from);
        if (at < 0) return null;
        boolean twice = b.behind.isEmpty() && source.indexOf(b.old, at + 1) >= 0;
        return twice ? null : source.substring(0, at) + b.young + source.substring(at + b.old.length());
    }

    private static Map<String, ByteArrayOutputStream> compiled(JavaCompiler compiler, StandardJavaFileManager files,
            String source) {
        Memory memory = new Memory(files);
        JavaFileObject unit = new SimpleJavaFileObject(URI.create("string:///LastStirred.java"), JavaFileObject.Kind.SOURCE) {
            @Override
            public CharSequence getCharContent(boolean ignoreErrors) {
                return source;
            }
        };
        boolean good = compiler.getTask(null, memory, null, List.of("-proc:none", "-nowarn"), null, List.of(unit)).call();
        return good ? memory.classes : null;
    }

    /** Whether the sentence's own test fails: by an answer, by what is thrown, or by going on and on. */
    private static boolean isSeen(Map<String, ByteArrayOutputStream> classes, String sentence) throws InterruptedException {
        AtomicInteger wrong = new AtomicInteger(1);
        Thread test = new Thread(() -> {
            try {
                Class<?> sentences = new Anew(classes).loadClass("Sentences");
                var all = sentences.getDeclaredMethod("ofTheDocument");
                var of = sentences.getDeclaredMethod("wrongOf", String.class);
                all.setAccessible(true);
                of.setAccessible(true);
                wrong.set((int) of.invoke(all.invoke(null), sentence));
            } catch (ReflectiveOperationException e) {
                if (e.getCause() == null) e.printStackTrace(OUT);
            }
        });
        test.setDaemon(true);
        test.start();
        test.join(MOST_MILLIS);
        return test.isAlive() || wrong.get() != 0;
    }

    private static String lookAt(JavaCompiler compiler, StandardJavaFileManager files, String source, Break b)
            throws InterruptedException {
        String text = broken(source, b);
        if (text == null) return "what it breaks is not found, or is found twice";
        Map<String, ByteArrayOutputStream> classes = compiled(compiler, files, text);
        if (classes == null) return "does not compile";
        return isSeen(classes, b.sentence) ? null : "is not seen by the sentence's test";
    }

    public static void main(String[] args) throws IOException, InterruptedException {
        System.setOut(new PrintStream(OutputStream.nullOutputStream()));
        String source = plain(Files.readAllLines(SOURCE));
        List<Break> breaks = told();
        List<String> names = Sentences.ofTheDocument().names();
        Set<String> open = new HashSet<>(names);
        JavaCompiler compiler = ToolProvider.getSystemJavaCompiler();
        int wrong = 0;
        try (StandardJavaFileManager files = compiler.getStandardFileManager(null, null, null)) {
            for (Break b : breaks) {
                if (args.length > 0 && !b.sentence.startsWith(args[0])) continue;
                String fault = names.contains(b.sentence) ? lookAt(compiler, files, source, b) : "is of no sentence";
                open.remove(b.sentence);
                if (fault == null) continue;
                wrong++;
                OUT.println("«" + b.sentence + "», broken by «" + b.young + "»: " + fault);
            }
        }
        for (String name : names) if (open.contains(name) && args.length == 0) OUT.println("never broken: " + name);
        OUT.println(breaks.size() + " breaks of " + names.size() + " sentences: " + wrong + " not as due, "
                + (args.length == 0 ? open.size() : 0) + " sentences never broken");
        System.exit(wrong == 0 && (args.length > 0 || open.isEmpty()) ? 0 : 1);
    }
}
