import com.sun.source.tree.AssertTree;
import com.sun.source.tree.BinaryTree;
import com.sun.source.tree.ClassTree;
import com.sun.source.tree.CompilationUnitTree;
import com.sun.source.tree.ImportTree;
import com.sun.source.tree.InstanceOfTree;
import com.sun.source.tree.LambdaExpressionTree;
import com.sun.source.tree.MemberReferenceTree;
import com.sun.source.tree.MemberSelectTree;
import com.sun.source.tree.MethodInvocationTree;
import com.sun.source.tree.MethodTree;
import com.sun.source.tree.NewArrayTree;
import com.sun.source.tree.NewClassTree;
import com.sun.source.tree.SynchronizedTree;
import com.sun.source.tree.ThrowTree;
import com.sun.source.tree.Tree;
import com.sun.source.tree.TryTree;
import com.sun.source.tree.VariableTree;
import com.sun.source.util.JavacTask;
import com.sun.source.util.TreeScanner;
import java.io.File;
import java.lang.reflect.Field;
import java.lang.reflect.Member;
import java.lang.reflect.Method;
import java.lang.reflect.Modifier;
import java.util.ArrayList;
import java.util.HashMap;
import java.util.HashSet;
import java.util.List;
import java.util.Map;
import java.util.Set;
import java.util.TreeSet;
import javax.lang.model.element.Name;
import javax.tools.JavaCompiler;
import javax.tools.StandardJavaFileManager;
import javax.tools.ToolProvider;

/** The face of the document, and what of LANGUAGE.md can be seen by reading the class. */
public final class LanguageTest {
    private static final Due due = new Due("language");
    private static final String SOURCE = "src/main/java/LastStirred.java";
    private static final Set<String> LIBRARY = Set.of("Math.abs", "Math.min", "Arrays.fill", "System.arraycopy",
            "Integer.bitCount");
    private static final String FACE = "row(int,int) lay(int,int,int) at(int,int) tear(int)"
            + " copy(int,int,int,int,int) mean(int) text(int,int) put(int,int,int) fault(int) ground(int) cell(int)"
            + " build(int,int) beast(int,int) mark(int,int) last() stir(int,int) go(int) run() ring() where(int)"
            + " apart() keep(int) on(int) fewest() ways(int) gather() part(int,int) worth(int,int) stone(int)"
            + " drive(int) reach(int,int) never() wolf(int,int) dawn(int) who(int) breed(int) asked() count(int)"
            + " finding() findings(int) long:upper() long:lower() long:digest()";

    private static final Map<String, Set<String>> calls = new HashMap<>();

    private static boolean isOpen(Member m) {
        return !Modifier.isPrivate(m.getModifiers()) && !m.isSynthetic();
    }

    private static void face() {
        Set<String> want = new TreeSet<>(List.of(FACE.split(" ")));
        Set<String> got = new TreeSet<>();
        Set<String> closed = new TreeSet<>();
        for (Method m : LastStirred.class.getDeclaredMethods()) {
            StringBuilder types = new StringBuilder();
            for (Class<?> p : m.getParameterTypes()) types.append(types.length() > 0 ? "," : "").append(p.getName());
            String answer = m.getReturnType() == int.class ? "" : m.getReturnType() + ":";
            if (isOpen(m)) got.add(answer + m.getName() + "(" + types + ")");
            else closed.add(m.getName());
            if (isOpen(m)) due.is(m + " is public", Modifier.isPublic(m.getModifiers()) ? 1 : 0, 1);
        }
        due.is("the face: " + got, got.equals(want) ? 1 : 0, 1);
        for (Class<?> inside : LastStirred.class.getDeclaredClasses()) {
            due.is(inside + " is static", Modifier.isStatic(inside.getModifiers()) ? 1 : 0, 1);
            for (Method m : inside.getDeclaredMethods()) closed.add(m.getName());
        }
        Set<String> names = new TreeSet<>();
        for (String one : want) names.add(one.replaceAll("^long:|\\(.*", ""));
        for (String name : closed) due.is("inside, a name of the face: " + name, names.contains(name) ? 1 : 0, 0);
        Set<String> constants = new TreeSet<>();
        for (Field f : LastStirred.class.getDeclaredFields()) if (isOpen(f)) constants.add(f.getName());
        due.is("constants: " + constants,
                constants.equals(Set.of("BAD", "FULL", "FINDING", "STATE", "SPENT", "NONE")) ? 1 : 0, 1);
        due.is("one constructor", LastStirred.class.getDeclaredConstructors().length, 1);
        due.is("final", Modifier.isFinal(LastStirred.class.getModifiers()) ? 1 : 0, 1);
    }

    private static final class Reader extends TreeScanner<Void, String> {
        private int classes;

        private void never(String what, Tree tree) {
            due.is(what + ": " + tree, 1, 0);
        }

        @Override
        public Void visitImport(ImportTree t, String in) {
            due.is("import " + t.getQualifiedIdentifier(),
                    t.getQualifiedIdentifier().toString().equals("java.util.Arrays") ? 1 : 0, 1);
            return null;
        }

        @Override
        public Void visitClass(ClassTree t, String in) {
            classes++;
            int fields = 0;
            for (Tree m : t.getMembers()) {
                if (!(m instanceof VariableTree v)) continue;
                Set<javax.lang.model.element.Modifier> flags = v.getModifiers().getFlags();
                boolean isStatic = flags.contains(javax.lang.model.element.Modifier.STATIC);
                if (isStatic && !flags.contains(javax.lang.model.element.Modifier.FINAL)) never("static, not final", v);
                if (!isStatic) fields++;
            }
            due.is("fields of " + t.getSimpleName() + ": " + fields, fields <= 20 ? 1 : 0, 1);
            return super.visitClass(t, in);
        }

        @Override
        public Void visitMethod(MethodTree t, String in) {
            due.is("parameters of " + t.getName(), t.getParameters().size() <= 7 ? 1 : 0, 1);
            int lines = t.toString().split("\n").length;
            due.is("lines of " + t.getName() + ": " + lines, lines <= 60 ? 1 : 0, 1);
            calls.computeIfAbsent(t.getName().toString(), k -> new HashSet<>());
            return super.visitMethod(t, t.getName().toString());
        }

        @Override
        public Void visitMethodInvocation(MethodInvocationTree t, String in) {
            String called = t.getMethodSelect().toString();
            if (t.getMethodSelect() instanceof MemberSelectTree s) {
                String on = s.getExpression().toString();
                if (Character.isUpperCase(on.charAt(0))) due.is(called, LIBRARY.contains(called) ? 1 : 0, 1);
                Name name = s.getIdentifier();
                called = name.toString();
            }
            if (in != null) calls.computeIfAbsent(in, k -> new HashSet<>()).add(called);
            return super.visitMethodInvocation(t, in);
        }

        @Override
        public Void visitNewClass(NewClassTree t, String in) {
            if (in != null || t.getClassBody() != null) never("made in a method, or nameless", t);
            return super.visitNewClass(t, in);
        }

        @Override
        public Void visitNewArray(NewArrayTree t, String in) {
            if (in != null && !in.equals("<init>")) never("an array made in a method", t);
            return super.visitNewArray(t, in);
        }

        @Override
        public Void visitThrow(ThrowTree t, String in) {
            never("throw", t);
            return null;
        }

        @Override
        public Void visitTry(TryTree t, String in) {
            never("try", t);
            return null;
        }

        @Override
        public Void visitAssert(AssertTree t, String in) {
            never("assert", t);
            return null;
        }

        @Override
        public Void visitSynchronized(SynchronizedTree t, String in) {
            never("synchronized", t);
            return null;
        }

        @Override
        public Void visitLambdaExpression(LambdaExpressionTree t, String in) {
            never("a lambda", t);
            return null;
        }

        @Override
        public Void visitMemberReference(MemberReferenceTree t, String in) {
            never("a method reference", t);
            return null;
        }

        @Override
        public Void visitInstanceOf(InstanceOfTree t, String in) {
            never("instanceof", t);
            return null;
        }

        @Override
        public Void visitBinary(BinaryTree t, String in) {
            if (t.getKind() == Tree.Kind.DIVIDE || t.getKind() == Tree.Kind.REMAINDER) {
                String by = t.getRightOperand().toString();
                due.is("a divisor that is seen not to be 0: " + t, Set.of("WAYS", "d", "size").contains(by) ? 1 : 0, 1);
            }
            return super.visitBinary(t, in);
        }
    }

    /** The longest chain of calls in which none stands twice. */
    private static int depth(String method, List<String> above) {
        List<String> open = new ArrayList<>(above);
        open.add(method);
        int most = 0;
        for (String called : calls.getOrDefault(method, Set.of())) {
            if (calls.containsKey(called) && !open.contains(called)) most = Math.max(most, depth(called, open));
        }
        return 1 + most;
    }

    private static void source() throws Exception {
        JavaCompiler compiler = ToolProvider.getSystemJavaCompiler();
        try (StandardJavaFileManager files = compiler.getStandardFileManager(null, null, null)) {
            JavacTask task = (JavacTask) compiler.getTask(null, files, null, List.of("-proc:none"), null,
                    files.getJavaFileObjects(new File(SOURCE)));
            for (CompilationUnitTree unit : task.parse()) {
                String text = unit.getSourceFile().getCharContent(true).toString();
                due.is("signs are 1 to 127", text.chars().allMatch(c -> c > 0 && c < 128) ? 1 : 0, 1);
                Reader reader = new Reader();
                reader.scan(unit, null);
                due.is("classes: " + reader.classes, reader.classes <= 12 ? 1 : 0, 1);
            }
        }
        for (String method : calls.keySet()) {
            int depth = depth(method, List.of());
            due.is("calls from " + method + " go " + depth + " deep", depth <= 8 ? 1 : 0, 1);
        }
    }

    public static void main(String[] args) throws Exception {
        face();
        source();
        due.end();
    }
}
