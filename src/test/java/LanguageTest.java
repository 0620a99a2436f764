import com.sun.source.tree.AssertTree;
import com.sun.source.tree.BinaryTree;
import com.sun.source.tree.BlockTree;
import com.sun.source.tree.ClassTree;
import com.sun.source.tree.CompilationUnitTree;
import com.sun.source.tree.LambdaExpressionTree;
import com.sun.source.tree.MemberReferenceTree;
import com.sun.source.tree.MethodInvocationTree;
import com.sun.source.tree.MethodTree;
import com.sun.source.tree.NewClassTree;
import com.sun.source.tree.SynchronizedTree;
import com.sun.source.tree.ThrowTree;
import com.sun.source.tree.Tree;
import com.sun.source.tree.TryTree;
import com.sun.source.tree.VariableTree;
import com.sun.source.util.JavacTask;
import com.sun.source.util.TreePathScanner;
import com.sun.source.util.Trees;
import java.io.File;
import java.lang.management.ManagementFactory;
import java.lang.reflect.Field;
import java.lang.reflect.Method;
import java.lang.reflect.Modifier;
import java.nio.file.Files;
import java.nio.file.Path;
import java.util.HashMap;
import java.util.HashSet;
import java.util.List;
import java.util.Map;
import java.util.Set;
import java.util.TreeSet;
import javax.lang.model.element.Element;
import javax.lang.model.element.ExecutableElement;
import javax.tools.JavaCompiler;
import javax.tools.StandardJavaFileManager;
import javax.tools.ToolProvider;

/** Those rules of LANGUAGE.md that a program can look at: the face, the form of methods, the depth of calls, the room. */
public final class LanguageTest {
    private static final String SOURCE = "src/main/java/LightHalves.java";
    private static final String FACE = "ship shipOf change remake light lane laneOf ends anew state feed rules watch on when"
        + " trimFor laneFor rock least safe convoys best ith ways log bars game play report forget lone liar seed lot times"
        + " prove row alterRow judge sheet write item goAll wouldBe shelf taken act trace many keep again";
    private static final Map<String, Set<String>> LIBRARY = Map.of(
        "String", Set.of("length", "charAt", "isEmpty", "equals", "indexOf", "substring", "toCharArray"),
        "StringBuilder", Set.of("append", "charAt", "setCharAt", "setLength", "deleteCharAt", "reverse", "length", "toString"),
        "ArrayList", Set.of("add", "get", "set", "remove", "size", "isEmpty", "clear"),
        "List", Set.of("add", "get", "set", "remove", "size", "isEmpty", "clear", "of"),
        "System", Set.of("arraycopy"),
        "Arrays", Set.of("fill", "copyOf", "copyOfRange"),
        "Object", Set.of("<init>", "clone"));
    private static final Set<String> TYPES = Set.of("int", "long", "short", "byte", "char", "boolean", "double", "float",
        "String", "StringBuilder");
    /** Divisors that are numbers told by the calls, and are looked at where they stand. */
    private static final Set<String> DIVISORS = Set.of("Rock.passByLot: (count + 1)", "Thing.shipSounds: by");
    /** What calls itself; each carries how deep it is and ends at the length of a PLAN. */
    private static final Set<String> RECURSIONS = Set.of("Planner.explore", "Planner.duel");
    /** What LANGUAGE.md says all calls of one run have room for, in bytes. */
    private static final long ROOM = 7_300_000L * 8;
    private static final Due due = new Due("LanguageTest");
    private static final Map<String, Set<String>> calls = new HashMap<>();
    private static final Set<String> outside = new TreeSet<>();

    public static void main(String[] args) throws Exception {
        face();
        classes();
        source();
        depth();
        recursions();
        signs();
        room();
        due.end();
    }

    private static void face() {
        Set<String> wanted = new TreeSet<>(List.of(FACE.split(" ")));
        Set<String> found = new TreeSet<>();
        for (Method m : LightHalves.class.getDeclaredMethods()) {
            if (Modifier.isPublic(m.getModifiers())) {
                found.add(m.getName());
                due.is("rule 1: answers an int: " + m.getName(), m.getReturnType() == int.class ? 1 : 0, 1);
            } else {
                due.is("rule 1: private " + m.getName(), Modifier.isPrivate(m.getModifiers()) ? 1 : 0, 1);
                due.is("rule 1: a public one's name " + m.getName(), wanted.contains(m.getName()) ? 1 : 0, 0);
            }
        }
        due.is("rule 1: the face " + found, found.equals(wanted) ? 1 : 0, 1);
        for (Field f : LightHalves.class.getDeclaredFields()) {
            boolean constant = Set.of("BAD", "FULL", "NONE", "STATE").contains(f.getName());
            boolean right = constant ? Modifier.isPublic(f.getModifiers()) : Modifier.isPrivate(f.getModifiers());
            due.is("rule 1: field " + f.getName(), right ? 1 : 0, 1);
        }
    }

    private static void classes() {
        Class<?>[] inside = LightHalves.class.getDeclaredClasses();
        due.is("rule 11: at most twelve classes", inside.length + 1 <= 12 ? 1 : 0, 1);
        for (Class<?> c : inside) {
            due.is("rule 2: static " + c, Modifier.isStatic(c.getModifiers()) ? 1 : 0, 1);
            int fields = 0;
            for (Field f : c.getDeclaredFields()) {
                if (Modifier.isStatic(f.getModifiers())) {
                    due.is("rule 5: final " + f, Modifier.isFinal(f.getModifiers()) ? 1 : 0, 1);
                } else {
                    fields++;
                }
            }
            due.is("rule 11: fields of " + c, fields <= 20 ? 1 : 0, 1);
        }
    }

    private static void source() throws Exception {
        JavaCompiler javac = ToolProvider.getSystemJavaCompiler();
        try (StandardJavaFileManager files = javac.getStandardFileManager(null, null, null)) {
            JavacTask task = (JavacTask) javac.getTask(null, files, null, List.of("-proc:none"), null,
                files.getJavaFileObjects(new File(SOURCE)));
            CompilationUnitTree unit = task.parse().iterator().next();
            task.analyze();
            new Looker(Trees.instance(task), unit).scan(unit, null);
        }
        for (String s : outside) {
            due.is("rule 4: " + s, isInTheLibrary(s) ? 1 : 0, 1);
        }
    }

    private static boolean isInTheLibrary(String call) {
        String type = call.substring(0, call.indexOf('.'));
        String name = call.substring(call.indexOf('.') + 1);
        boolean isReckoning = type.equals("Math") || type.equals("Integer") || type.equals("Long");
        return LIBRARY.getOrDefault(type, Set.of()).contains(name) || isReckoning && !name.endsWith("Exact");
    }

    private static final class Looker extends TreePathScanner<Void, Void> {
        private final Trees trees;
        private final CompilationUnitTree unit;
        private String method = "";

        Looker(Trees trees, CompilationUnitTree unit) {
            this.trees = trees;
            this.unit = unit;
        }

        private static String nameOf(Element e) {
            StringBuilder b = new StringBuilder(e.getEnclosingElement().getSimpleName()).append('.').append(e.getSimpleName());
            return b.toString();
        }

        private void ruledOut(String what) {
            due.is(what + " in " + method, 1, 0);
        }

        @Override public Void visitMethod(MethodTree tree, Void v) {
            method = nameOf(trees.getElement(getCurrentPath()));
            calls.putIfAbsent(method, new HashSet<>());
            due.is("rule 11: parameters of " + method, tree.getParameters().size() <= 7 ? 1 : 0, 1);
            long from = trees.getSourcePositions().getStartPosition(unit, tree);
            long to = trees.getSourcePositions().getEndPosition(unit, tree);
            if (to > from) {
                long lines = unit.getLineMap().getLineNumber(to) - unit.getLineMap().getLineNumber(from) + 1;
                due.is("rule 11: " + lines + " lines of " + method, lines <= 60 ? 1 : 0, 1);
            }
            super.visitMethod(tree, v);
            method = "";
            return null;
        }

        @Override public Void visitMethodInvocation(MethodInvocationTree tree, Void v) {
            Element called = trees.getElement(getCurrentPath());
            String name = nameOf(called);
            boolean own = called instanceof ExecutableElement && called.getEnclosingElement().toString().startsWith("LightHalves");
            if (own) {
                calls.get(method).add(name);
            } else {
                outside.add(name);
            }
            return super.visitMethodInvocation(tree, v);
        }

        @Override public Void visitClass(ClassTree tree, Void v) {
            due.is("rule 2: a class without a name", tree.getSimpleName().length() > 0 ? 1 : 0, 1);
            for (Tree member : tree.getMembers()) {
                due.is("rule 5: a block in " + tree.getSimpleName(), member instanceof BlockTree ? 1 : 0, 0);
            }
            return super.visitClass(tree, v);
        }

        @Override public Void visitVariable(VariableTree tree, Void v) {
            String type = String.valueOf(tree.getType()).replaceFirst("(\\[\\])?(\\[\\])?$", "");
            boolean own = false;
            for (Class<?> inside : LightHalves.class.getDeclaredClasses()) {
                own |= inside.getSimpleName().equals(type);
            }
            due.is("rule 3: a " + tree.getType() + " in " + method, own || TYPES.contains(type) ? 1 : 0, 1);
            return super.visitVariable(tree, v);
        }

        @Override public Void visitNewClass(NewClassTree tree, Void v) {
            due.is("rule 12: an object made in " + method, method.isEmpty() || method.endsWith("<init>") ? 1 : 0, 1);
            return super.visitNewClass(tree, v);
        }

        @Override public Void visitBinary(BinaryTree tree, Void v) {
            boolean parts = tree.getKind() == Tree.Kind.DIVIDE || tree.getKind() == Tree.Kind.REMAINDER;
            String divisor = tree.getRightOperand().toString();
            boolean looked = divisor.matches("[1-9]\\d*") || DIVISORS.contains(method + ": " + divisor);
            due.is("rule 7: parted by " + divisor + " in " + method, !parts || looked ? 1 : 0, 1);
            return super.visitBinary(tree, v);
        }

        @Override public Void visitThrow(ThrowTree tree, Void v) {
            ruledOut("rule 6: throw");
            return super.visitThrow(tree, v);
        }

        @Override public Void visitTry(TryTree tree, Void v) {
            ruledOut("rule 6: try");
            return super.visitTry(tree, v);
        }

        @Override public Void visitSynchronized(SynchronizedTree tree, Void v) {
            ruledOut("rule 6: synchronized");
            return super.visitSynchronized(tree, v);
        }

        @Override public Void visitAssert(AssertTree tree, Void v) {
            ruledOut("rule 6: assert");
            return super.visitAssert(tree, v);
        }

        @Override public Void visitLambdaExpression(LambdaExpressionTree tree, Void v) {
            ruledOut("rule 2: lambda");
            return super.visitLambdaExpression(tree, v);
        }

        @Override public Void visitMemberReference(MemberReferenceTree tree, Void v) {
            ruledOut("rule 2: method reference");
            return super.visitMemberReference(tree, v);
        }
    }

    private static void depth() {
        for (String method : calls.keySet()) {
            int depth = depthOf(method, new HashSet<>());
            due.is("rule 11: " + depth + " calls deep from " + method, depth <= 8 ? 1 : 0, 1);
        }
    }

    /** How many methods stand open at once, the first one too; one that calls itself counts once. */
    private static int depthOf(String method, Set<String> open) {
        int deepest = 0;
        open.add(method);
        for (String next : calls.get(method)) {
            if (!open.contains(next)) {
                deepest = Math.max(deepest, depthOf(next, open));
            }
        }
        open.remove(method);
        return deepest + 1;
    }

    private static void recursions() {
        for (String method : calls.keySet()) {
            boolean again = reaches(method, method, new HashSet<>());
            due.is("rule 8: " + method + " calls itself", again ? 1 : 0, RECURSIONS.contains(method) ? 1 : 0);
        }
    }

    private static boolean reaches(String from, String method, Set<String> seen) {
        for (String next : calls.get(from)) {
            if (next.equals(method) || seen.add(next) && reaches(next, method, seen)) {
                return true;
            }
        }
        return false;
    }

    private static void signs() throws Exception {
        for (byte b : Files.readAllBytes(Path.of(SOURCE))) {
            if (b < 1) {
                due.isWrong("rule 4: a sign that isn't 1 to 127");
            }
        }
    }

    /** The dearest calls, as many as an object is used for. */
    private static void room() {
        com.sun.management.ThreadMXBean bean = (com.sun.management.ThreadMXBean) ManagementFactory.getThreadMXBean();
        long id = Thread.currentThread().getId();
        LightHalves x = Due.twoBrigs();
        x.ship(3, 30, 5, 2);
        x.ship(5, 30, 5, 3);
        long before = bean.getThreadAllocatedBytes(id);
        for (int i = 0; i < 42; i++) {
            x.best(4);
            x.game(4);
            x.log(4, 15);
            x.prove(4);
            x.lone(0);
            x.liar();
            x.times(40, 9);
            x.laneFor(0);
            x.keep();
            x.again();
            x.feed(0x3b6c696168206769L, 8);
            x.rules();
        }
        long made = bean.getThreadAllocatedBytes(id) - before;
        due.is("rule 12: room for " + made + " bytes made by 504 calls", made < ROOM ? 1 : 0, 1);
    }
}
