import com.sun.source.tree.AssertTree;
import com.sun.source.tree.AssignmentTree;
import com.sun.source.tree.BinaryTree;
import com.sun.source.tree.ClassTree;
import com.sun.source.tree.CompilationUnitTree;
import com.sun.source.tree.CompoundAssignmentTree;
import com.sun.source.tree.DoWhileLoopTree;
import com.sun.source.tree.EnhancedForLoopTree;
import com.sun.source.tree.ForLoopTree;
import com.sun.source.tree.IdentifierTree;
import com.sun.source.tree.InstanceOfTree;
import com.sun.source.tree.LambdaExpressionTree;
import com.sun.source.tree.LiteralTree;
import com.sun.source.tree.MemberReferenceTree;
import com.sun.source.tree.MemberSelectTree;
import com.sun.source.tree.MethodInvocationTree;
import com.sun.source.tree.MethodTree;
import com.sun.source.tree.NewArrayTree;
import com.sun.source.tree.NewClassTree;
import com.sun.source.tree.SynchronizedTree;
import com.sun.source.tree.ThrowTree;
import com.sun.source.tree.Tree;
import com.sun.source.tree.TryTree;
import com.sun.source.tree.TypeCastTree;
import com.sun.source.tree.UnaryTree;
import com.sun.source.tree.VariableTree;
import com.sun.source.tree.WhileLoopTree;
import com.sun.source.util.JavacTask;
import com.sun.source.util.TreePathScanner;
import com.sun.source.util.TreeScanner;
import com.sun.source.util.Trees;
import java.lang.reflect.Constructor;
import java.lang.reflect.Field;
import java.lang.reflect.Method;
import java.lang.reflect.Modifier;
import java.nio.file.Path;
import java.util.ArrayList;
import java.util.HashMap;
import java.util.List;
import java.util.Map;
import java.util.Set;
import java.util.TreeSet;
import javax.tools.JavaCompiler;
import javax.tools.StandardJavaFileManager;
import javax.tools.ToolProvider;

/** Looks at src/main/java/OnceStore.java: the document's public face, and the rules of LANGUAGE.md that can be seen. */
public final class LanguageRules {
    private static final int MOST_LINES = 60, MOST_DEEP = 6, MOST_FIELDS = 40, MOST_PARAMETERS = 7;
    private static final String FACE = "boolean finish(boolean), boolean need(int), boolean root(int,boolean), "
            + "boolean stream(int,int), boolean trigger(int,int,int), int begin(), int clear(), int compare(int,int), "
            + "int copy(int), int depth(int), int different(int), int end(int), int equal(int,int), int make(int,int), "
            + "int matches(int,int), int noted(int), int number(int,int), int part(int), int put(int,int), "
            + "int same(int), int state(int), int test(int,int,int), int tested(int), int undraft(), int variable(), "
            + "long node(int,int,boolean)";

    private static int wrong = 0;

    private static void rule(int number, boolean holds, String what) {
        if (!holds) {
            wrong++;
            System.out.println("rule " + number + ": " + what);
        }
    }

    public static void main(String[] args) throws Exception {
        lookAtFace();
        lookAtSource();
        System.out.println(wrong == 0 ? "all rules are kept" : wrong + " rules are broken");
        if (wrong != 0) {
            System.exit(1);
        }
    }

    private static void lookAtFace() {
        Class<?> store = OnceStore.class;
        rule(1, Modifier.isFinal(store.getModifiers()) && Modifier.isPublic(store.getModifiers()), "public and final");
        rule(1, store.getDeclaredClasses().length == 0, "a nested class");
        Set<String> face = new TreeSet<>();
        Set<String> hidden = new TreeSet<>();
        Set<String> shown = new TreeSet<>();
        for (Method m : store.getDeclaredMethods()) {
            List<String> types = new ArrayList<>();
            for (Class<?> p : m.getParameterTypes()) {
                types.add(p.getName());
            }
            rule(10, types.size() <= MOST_PARAMETERS, "parameters of " + m.getName());
            rule(2, m.getReturnType().isPrimitive(), "what " + m.getName() + " answers");
            if (Modifier.isPrivate(m.getModifiers())) {
                hidden.add(m.getName());
            } else {
                shown.add(m.getName());
                face.add(m.getReturnType().getName() + " " + m.getName() + "(" + String.join(",", types) + ")");
            }
        }
        rule(1, String.join(", ", face).equals(FACE), "the public methods are " + face);
        hidden.retainAll(shown);
        rule(1, hidden.isEmpty(), "private methods with public names: " + hidden);
        Constructor<?>[] made = store.getDeclaredConstructors();
        rule(1, made.length == 1 && made[0].getParameterCount() == 0 && Modifier.isPublic(made[0].getModifiers()), "the constructor");
        Set<String> open = new TreeSet<>();
        int fields = 0;
        for (Field f : store.getDeclaredFields()) {
            boolean constant = Modifier.isStatic(f.getModifiers());
            rule(5, !constant || f.getType() == int.class || f.getType() == long.class, "static " + f.getName());
            rule(5, !constant || Modifier.isFinal(f.getModifiers()), "static " + f.getName() + " is not final");
            rule(4, !f.getType().isArray() || Modifier.isFinal(f.getModifiers()), f.getName() + " can be assigned to");
            fields += constant ? 0 : 1;
            if (!Modifier.isPrivate(f.getModifiers())) {
                open.add(f.getName());
            }
        }
        rule(1, open.equals(Set.of("REFUSED", "FULL", "ENDLESS", "NOTHING", "YES", "NO", "WAITS")), "the open fields are " + open);
        rule(10, fields <= MOST_FIELDS, fields + " fields");
    }

    private static void lookAtSource() throws Exception {
        JavaCompiler javac = ToolProvider.getSystemJavaCompiler();
        try (StandardJavaFileManager files = javac.getStandardFileManager(null, null, null)) {
            JavacTask task = (JavacTask) javac.getTask(null, files, null, null, null,
                    files.getJavaFileObjects(Path.of("src/main/java/OnceStore.java")));
            for (CompilationUnitTree unit : task.parse()) {
                rule(1, unit.getPackage() == null, "a package line");
                rule(3, unit.getImports().isEmpty(), "imports");
                rule(1, unit.getTypeDecls().size() == 1, "more than one class");
                Look look = new Look(unit, Trees.instance(task));
                look.scan(unit, null);
                look.lookAtCalls();
            }
        }
    }

    private static final class Look extends TreePathScanner<Void, Void> {
        private final CompilationUnitTree unit;
        private final Trees trees;
        private final Map<String, Set<String>> calls = new HashMap<>();
        private final Set<String> arrays = new TreeSet<>();
        private String method = "";
        private int inArguments = 0;

        Look(CompilationUnitTree unit, Trees trees) {
            this.unit = unit;
            this.trees = trees;
            for (Field f : OnceStore.class.getDeclaredFields()) {
                if (f.getType().isArray()) {
                    arrays.add(f.getName());
                }
            }
        }

        private long line(Tree t, boolean end) {
            var at = trees.getSourcePositions();
            return unit.getLineMap().getLineNumber(end ? at.getEndPosition(unit, t) : at.getStartPosition(unit, t));
        }

        private void never(int number, Tree t) {
            rule(number, false, "line " + line(t, false) + ": " + t);
        }

        @Override public Void visitMethod(MethodTree m, Void p) {
            method = m.getName().toString();
            calls.putIfAbsent(method, new TreeSet<>());
            long lines = line(m, true) - line(m, false) + 1;
            rule(10, lines <= MOST_LINES, method + " has " + lines + " lines");
            super.visitMethod(m, p);
            method = "";
            return null;
        }

        @Override public Void visitMethodInvocation(MethodInvocationTree call, Void p) {
            if (call.getMethodSelect() instanceof IdentifierTree name) {
                rule(10, inArguments == 0, "line " + line(call, false) + ": a call in a call's arguments");
                if (!name.getName().contentEquals("super")) {
                    calls.get(method).add(name.getName().toString());
                }
            } else {
                never(3, call);
            }
            inArguments++;
            scan(call.getArguments(), p);
            inArguments--;
            return null;
        }

        @Override public Void visitVariable(VariableTree v, Void p) {
            String type = String.valueOf(v.getType());
            rule(2, type.matches("(int|long|short|byte|char|boolean)(\\[\\])?"), v.getName() + " is a " + type);
            return super.visitVariable(v, p);
        }

        @Override public Void visitNewArray(NewArrayTree t, Void p) {
            rule(4, method.isEmpty(), "line " + line(t, false) + ": an array made in " + method);
            rule(4, t.getDimensions().size() == 1 && (t.getDimensions().get(0) instanceof IdentifierTree
                    || t.getDimensions().get(0) instanceof LiteralTree), "line " + line(t, false) + ": " + t);
            return super.visitNewArray(t, p);
        }

        @Override public Void visitMemberSelect(MemberSelectTree t, Void p) {
            never(3, t);
            return super.visitMemberSelect(t, p);
        }

        @Override public Void visitLiteral(LiteralTree t, Void p) {
            rule(2, t.getKind() != Tree.Kind.STRING_LITERAL && t.getKind() != Tree.Kind.NULL_LITERAL
                    && t.getKind() != Tree.Kind.DOUBLE_LITERAL && t.getKind() != Tree.Kind.FLOAT_LITERAL, "literal " + t);
            return null;
        }

        @Override public Void visitNewClass(NewClassTree t, Void p) {
            never(4, t);
            return null;
        }

        @Override public Void visitThrow(ThrowTree t, Void p) {
            never(6, t);
            return null;
        }

        @Override public Void visitTry(TryTree t, Void p) {
            never(6, t);
            return null;
        }

        @Override public Void visitSynchronized(SynchronizedTree t, Void p) {
            never(6, t);
            return null;
        }

        @Override public Void visitAssert(AssertTree t, Void p) {
            never(6, t);
            return null;
        }

        @Override public Void visitInstanceOf(InstanceOfTree t, Void p) {
            never(6, t);
            return null;
        }

        @Override public Void visitLambdaExpression(LambdaExpressionTree t, Void p) {
            never(6, t);
            return null;
        }

        @Override public Void visitMemberReference(MemberReferenceTree t, Void p) {
            never(6, t);
            return null;
        }

        @Override public Void visitTypeCast(TypeCastTree t, Void p) {
            rule(6, t.getType().toString().matches("int|long|short|byte|char"), "a cast to " + t.getType());
            return super.visitTypeCast(t, p);
        }

        @Override public Void visitAssignment(AssignmentTree t, Void p) {
            noArrayIsNamed(t.getVariable());
            noArrayIsNamed(t.getExpression());
            return super.visitAssignment(t, p);
        }

        @Override public Void visitBinary(BinaryTree t, Void p) {
            noArrayIsNamed(t.getLeftOperand());
            noArrayIsNamed(t.getRightOperand());
            divides(t.getKind(), t.getRightOperand());
            return super.visitBinary(t, p);
        }

        @Override public Void visitCompoundAssignment(CompoundAssignmentTree t, Void p) {
            divides(t.getKind(), t.getExpression());
            return super.visitCompoundAssignment(t, p);
        }

        private void noArrayIsNamed(Tree t) {
            rule(4, !arrays.contains(t.toString()), "line " + line(t, false) + ": an array assigned to or compared");
        }

        /** All constants of the class that divide are above 0; another divisor would have to be looked at first. */
        private void divides(Tree.Kind kind, Tree divisor) {
            boolean does = kind.name().startsWith("DIVIDE") || kind.name().startsWith("REMAINDER");
            rule(7, !does || divisor.toString().equals("VARIABLES"), "line " + line(divisor, false) + ": divides by " + divisor);
        }

        /** The rules let other loops be, but the ends of these are seen by a program, too. */
        @Override public Void visitForLoop(ForLoopTree t, Void p) {
            String counter = t.getInitializer().size() == 1 && t.getInitializer().get(0) instanceof VariableTree v
                    ? v.getName().toString() : "none";
            String step = t.getUpdate().size() == 1 ? t.getUpdate().get(0).toString() : "";
            String ends = String.valueOf(t.getCondition());
            boolean up = step.equals(counter + "++;") && ends.matches("\\(?" + counter + " <=? \\w+\\b.*");
            boolean down = step.equals(counter + "--;") && ends.matches("\\(?" + counter + " >=? \\w+\\b.*");
            rule(8, (up || down) && !ends.contains("||"), "line " + line(t, false) + ": the loop's end can't be seen");
            String bound = ends.replaceFirst("\\(?" + counter + " [<>]=? (\\w+)\\b.*", "$1");
            rule(8, !changes(t.getStatement(), counter) && !changes(t.getStatement(), bound),
                    "line " + line(t, false) + ": the loop changes its counter or its bound");
            return super.visitForLoop(t, p);
        }

        private static boolean changes(Tree body, String name) {
            boolean[] found = {false};
            new TreeScanner<Void, Void>() {
                @Override public Void visitAssignment(AssignmentTree t, Void p) {
                    found[0] |= t.getVariable().toString().equals(name);
                    return super.visitAssignment(t, p);
                }

                @Override public Void visitCompoundAssignment(CompoundAssignmentTree t, Void p) {
                    found[0] |= t.getVariable().toString().equals(name);
                    return super.visitCompoundAssignment(t, p);
                }

                @Override public Void visitUnary(UnaryTree t, Void p) {
                    boolean steps = t.getKind().name().endsWith("CREMENT");
                    found[0] |= steps && t.getExpression().toString().equals(name);
                    return super.visitUnary(t, p);
                }
            }.scan(body, null);
            return found[0];
        }

        @Override public Void visitWhileLoop(WhileLoopTree t, Void p) {
            never(8, t);
            return null;
        }

        @Override public Void visitDoWhileLoop(DoWhileLoopTree t, Void p) {
            never(8, t);
            return null;
        }

        @Override public Void visitEnhancedForLoop(EnhancedForLoopTree t, Void p) {
            never(8, t);
            return null;
        }

        @Override public Void visitClass(ClassTree t, Void p) {
            for (Tree member : t.getMembers()) {
                rule(5, member.getKind() != Tree.Kind.BLOCK, "an initialiser block");
            }
            return super.visitClass(t, p);
        }

        void lookAtCalls() {
            for (String m : calls.keySet()) {
                int deep = deepest(m, new ArrayList<>());
                rule(10, deep <= MOST_DEEP, "calls from " + m + " go " + deep + " deep");
            }
        }

        /** How many methods stand above each other at most, m the lowest one. */
        private int deepest(String m, List<String> below) {
            if (below.contains(m)) {
                rule(8, false, "recursion: " + below + " " + m);
                return 0;
            }
            below.add(m);
            int most = 0;
            for (String called : calls.getOrDefault(m, Set.of())) {
                rule(3, calls.containsKey(called), "a call of " + called);
                most = Math.max(most, deepest(called, below));
            }
            below.remove(m);
            return most + 1;
        }
    }
}
