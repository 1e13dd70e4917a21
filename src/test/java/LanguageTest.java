import com.sun.source.tree.AssertTree;
import com.sun.source.tree.ClassTree;
import com.sun.source.tree.CompilationUnitTree;
import com.sun.source.tree.ImportTree;
import com.sun.source.tree.LambdaExpressionTree;
import com.sun.source.tree.MemberReferenceTree;
import com.sun.source.tree.MethodInvocationTree;
import com.sun.source.tree.MethodTree;
import com.sun.source.tree.NewClassTree;
import com.sun.source.tree.SynchronizedTree;
import com.sun.source.tree.ThrowTree;
import com.sun.source.tree.Tree;
import com.sun.source.tree.TryTree;
import com.sun.source.tree.VariableTree;
import com.sun.source.util.JavacTask;
import com.sun.source.util.TreePathScanner;
import com.sun.source.util.Trees;
import java.io.File;
import java.lang.reflect.Field;
import java.lang.reflect.Member;
import java.lang.reflect.Method;
import java.lang.reflect.Modifier;
import java.util.ArrayList;
import java.util.HashMap;
import java.util.HashSet;
import java.util.List;
import java.util.Map;
import java.util.Set;
import java.util.TreeSet;
import javax.lang.model.element.Element;
import javax.tools.JavaCompiler;
import javax.tools.StandardJavaFileManager;
import javax.tools.ToolProvider;

/** The face of the document, and what of LANGUAGE.md can be seen by reading the class. */
public final class LanguageTest {
    private static final Due due = new Due("language");
    private static final String SOURCE = "src/main/java/LastStirred.java";
    private static final int MOST_PARAMETERS = 7, MOST_DEEP = 8;
    // LANGUAGE.md says "some" ahead of these three: sixty, twelve, twenty.
    private static final int MOST_LINES = 65, MOST_CLASSES = 13, MOST_FIELDS = 21;
    private static final String FACE = "row(int,int) lay(int,int,int) at(int,int) tear(int)"
            + " copy(int,int,int,int,int) mean(int) text(int,int) put(int,int,int) fault(int) ground(int) cell(int)"
            + " build(int,int) beast(int,int) mark(int,int) last() stir(int,int) go(int) run() ring() where(int)"
            + " apart() keep(int) on(int) fewest() ways(int) gather() part(int,int) worth(int,int) stone(int)"
            + " drive(int) reach(int,int) never() wolf(int,int) dawn(int) who(int) breed(int) asked() count(int)"
            + " finding() findings(int) long:upper() long:lower() long:digest()";
    /** Rule 4, by classes; of Math, Integer and Long all that does not end in Exact. */
    private static final Map<String, Set<String>> LIBRARY = Map.of(
            "java.lang.String", Set.of("length", "charAt", "isEmpty", "equals", "indexOf", "substring", "toCharArray"),
            "java.lang.StringBuilder", Set.of("append", "charAt", "setCharAt", "setLength", "deleteCharAt", "reverse",
                    "length", "toString"),
            "java.util.ArrayList", Set.of("add", "get", "set", "remove", "size", "isEmpty", "clear"),
            "java.util.List", Set.of("add", "get", "set", "remove", "size", "isEmpty", "clear", "of"),
            "java.lang.System", Set.of("arraycopy"),
            "java.util.Arrays", Set.of("copyOf", "copyOfRange", "fill"));
    private static final Set<String> COUNTING = Set.of("java.lang.Math", "java.lang.Integer", "java.lang.Long");
    private static final Set<String> IMPORTS = Set.of("java.util.Arrays", "java.util.ArrayList", "java.util.List",
            "java.util.Iterator");

    private static final Map<String, Set<String>> calls = new HashMap<>();

    private static boolean isOpen(Member m) {
        return !Modifier.isPrivate(m.getModifiers()) && !m.isSynthetic();
    }

    private static void face() {
        Set<String> want = new TreeSet<>(List.of(FACE.split(" ")));
        Set<String> got = new TreeSet<>();
        Set<String> closed = new TreeSet<>();
        for (Method m : LastStirred.class.getDeclaredMethods()) {
            StringBuilder types = new StringBuilder();
            for (Class<?> p : m.getParameterTypes()) types.append(types.length() > 0 ? "," : "").append(p.getName());
            String answer = m.getReturnType() == int.class ? "" : m.getReturnType() + ":";
            if (isOpen(m)) got.add(answer + m.getName() + "(" + types + ")");
            else closed.add(m.getName());
            if (isOpen(m)) due.is(m + " is public", Modifier.isPublic(m.getModifiers()) ? 1 : 0, 1);
        }
        due.is("the face: " + got, got.equals(want) ? 1 : 0, 1);
        for (Class<?> inside : LastStirred.class.getDeclaredClasses()) {
            due.is(inside + " is static", Modifier.isStatic(inside.getModifiers()) ? 1 : 0, 1);
            for (Method m : inside.getDeclaredMethods()) if (!isOpen(m)) closed.add(m.getName());
        }
        Set<String> names = new TreeSet<>();
        for (String one : want) names.add(one.replaceAll("^long:|\\(.*", ""));
        for (String name : closed) due.is("private, a name of the face: " + name, names.contains(name) ? 1 : 0, 0);
        Set<String> constants = new TreeSet<>();
        for (Field f : LastStirred.class.getDeclaredFields()) if (isOpen(f)) constants.add(f.getName());
        due.is("constants: " + constants,
                constants.equals(Set.of("BAD", "FULL", "FINDING", "STATE", "SPENT", "NONE")) ? 1 : 0, 1);
        due.is("one constructor", LastStirred.class.getDeclaredConstructors().length, 1);
        due.is("final", Modifier.isFinal(LastStirred.class.getModifiers()) ? 1 : 0, 1);
    }

    private static boolean isOwn(Element of) {
        return of != null && of.toString().startsWith("LastStirred");
    }

    private static boolean isAllowed(String of, String name) {
        if (COUNTING.contains(of)) return !name.endsWith("Exact");
        return name.equals("clone") || LIBRARY.getOrDefault(of, Set.of()).contains(name);
    }

    private static final class Reader extends TreePathScanner<Void, Void> {
        private final Trees trees;
        private String in = "";
        private int classes;

        Reader(Trees all) {
            trees = all;
        }

        private void never(String what, Tree tree) {
            due.is(what + ": " + tree, 1, 0);
        }

        @Override
        public Void visitImport(ImportTree t, Void v) {
            due.is(t.toString(), IMPORTS.contains(t.getQualifiedIdentifier().toString()) ? 1 : 0, 1);
            return null;
        }

        @Override
        public Void visitClass(ClassTree t, Void v) {
            classes++;
            Tree.Kind around = getCurrentPath().getParentPath().getLeaf().getKind();
            if (around == Tree.Kind.BLOCK || around == Tree.Kind.NEW_CLASS) never("a class in a method", t);
            int fields = 0;
            for (Tree m : t.getMembers()) {
                if (m.getKind() == Tree.Kind.BLOCK) never("an initialiser block", m);
                if (!(m instanceof VariableTree field)) continue;
                Set<javax.lang.model.element.Modifier> flags = field.getModifiers().getFlags();
                boolean isStatic = flags.contains(javax.lang.model.element.Modifier.STATIC);
                boolean isFinal = flags.contains(javax.lang.model.element.Modifier.FINAL);
                if (isStatic && !isFinal) never("static, not final", field);
                if (!isStatic) fields++;
            }
            due.is("fields of " + t.getSimpleName() + ": " + fields, fields <= MOST_FIELDS ? 1 : 0, 1);
            return super.visitClass(t, v);
        }

        @Override
        public Void visitMethod(MethodTree t, Void v) {
            due.is("parameters of " + t.getName(), t.getParameters().size() <= MOST_PARAMETERS ? 1 : 0, 1);
            int lines = t.toString().split("\n").length;
            due.is("lines of " + t.getName() + ": " + lines, lines <= MOST_LINES ? 1 : 0, 1);
            in = nameOf(trees.getElement(getCurrentPath()));
            calls.computeIfAbsent(in, k -> new HashSet<>());
            return super.visitMethod(t, v);
        }

        private static String nameOf(Element method) {
            return method.getEnclosingElement() + "." + method;
        }

        @Override
        public Void visitMethodInvocation(MethodInvocationTree t, Void v) {
            Element called = trees.getElement(getCurrentPath());
            String name = called.getSimpleName().toString();
            if (isOwn(called.getEnclosingElement())) {
                calls.computeIfAbsent(in, k -> new HashSet<>()).add(nameOf(called));
            } else if (!name.equals("<init>")) {
                String of = called.getEnclosingElement().toString();
                due.is(of + "." + name, isAllowed(of, name) ? 1 : 0, 1);
            }
            return super.visitMethodInvocation(t, v);
        }

        @Override
        public Void visitNewClass(NewClassTree t, Void v) {
            if (t.getClassBody() != null) never("a nameless class", t);
            return super.visitNewClass(t, v);
        }

        @Override
        public Void visitThrow(ThrowTree t, Void v) {
            never("throw", t);
            return null;
        }

        @Override
        public Void visitTry(TryTree t, Void v) {
            never("try", t);
            return null;
        }

        @Override
        public Void visitAssert(AssertTree t, Void v) {
            never("assert", t);
            return null;
        }

        @Override
        public Void visitSynchronized(SynchronizedTree t, Void v) {
            never("synchronized", t);
            return null;
        }

        @Override
        public Void visitLambdaExpression(LambdaExpressionTree t, Void v) {
            never("a lambda", t);
            return null;
        }

        @Override
        public Void visitMemberReference(MemberReferenceTree t, Void v) {
            never("a method reference", t);
            return null;
        }
    }

    /** The longest chain of calls in which none stands twice. */
    private static int depth(String method, List<String> above) {
        List<String> open = new ArrayList<>(above);
        open.add(method);
        int most = 0;
        for (String called : calls.getOrDefault(method, Set.of())) {
            if (calls.containsKey(called) && !open.contains(called)) most = Math.max(most, depth(called, open));
        }
        return 1 + most;
    }

    private static void source() throws Exception {
        JavaCompiler compiler = ToolProvider.getSystemJavaCompiler();
        try (StandardJavaFileManager files = compiler.getStandardFileManager(null, null, null)) {
            JavacTask task = (JavacTask) compiler.getTask(null, files, null, List.of("-proc:none"), null,
                    files.getJavaFileObjects(new File(SOURCE)));
            Iterable<? extends CompilationUnitTree> units = task.parse();
            task.analyze();
            for (CompilationUnitTree unit : units) {
                String text = unit.getSourceFile().getCharContent(true).toString();
                due.is("signs are 1 to 127", text.chars().allMatch(c -> c > 0 && c < 128) ? 1 : 0, 1);
                Reader reader = new Reader(Trees.instance(task));
                reader.scan(unit, null);
                due.is("classes: " + reader.classes, reader.classes <= MOST_CLASSES ? 1 : 0, 1);
            }
        }
        for (String method : calls.keySet()) {
            int depth = depth(method, List.of());
            due.is("calls from " + method + " go " + depth + " deep", depth <= MOST_DEEP ? 1 : 0, 1);
        }
    }

    public static void main(String[] args) throws Exception {
        face();
        source();
        due.end();
    }
}
