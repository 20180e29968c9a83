import com.sun.source.tree.ArrayAccessTree;
import com.sun.source.tree.AssertTree;
import com.sun.source.tree.BinaryTree;
import com.sun.source.tree.CompilationUnitTree;
import com.sun.source.tree.CompoundAssignmentTree;
import com.sun.source.tree.DoWhileLoopTree;
import com.sun.source.tree.ExpressionTree;
import com.sun.source.tree.ForLoopTree;
import com.sun.source.tree.LambdaExpressionTree;
import com.sun.source.tree.LiteralTree;
import com.sun.source.tree.MemberReferenceTree;
import com.sun.source.tree.MethodInvocationTree;
import com.sun.source.tree.MethodTree;
import com.sun.source.tree.NewArrayTree;
import com.sun.source.tree.NewClassTree;
import com.sun.source.tree.SynchronizedTree;
import com.sun.source.tree.ThrowTree;
import com.sun.source.tree.Tree;
import com.sun.source.tree.TryTree;
import com.sun.source.tree.TypeCastTree;
import com.sun.source.tree.VariableTree;
import com.sun.source.tree.WhileLoopTree;
import com.sun.source.util.JavacTask;
import com.sun.source.util.TreePath;
import com.sun.source.util.TreePathScanner;
import com.sun.source.util.Trees;
import java.io.IOException;
import java.lang.reflect.Constructor;
import java.lang.reflect.Field;
import java.lang.reflect.Method;
import java.lang.reflect.Modifier;
import java.nio.file.Files;
import java.nio.file.Path;
import java.util.ArrayList;
import java.util.HashMap;
import java.util.List;
import java.util.Map;
import java.util.Set;
import java.util.TreeMap;
import java.util.TreeSet;
import javax.lang.model.element.Element;
import javax.lang.model.type.TypeKind;
import javax.lang.model.type.TypeMirror;
import javax.tools.JavaCompiler;
import javax.tools.StandardJavaFileManager;
import javax.tools.ToolProvider;

/**
 * The rules of LANGUAGE.md that a machine can look at. The face is seen by reflection; the source as javac has it, with
 * the types of all that stands in it. Where this class needs less than a rule allows, the less is what is tested.
 */
public final class LanguageTest {
    private static final Set<String> FACE = Set.of(
        "int type(long,int)", "int clear()", "int moor()", "int cell(int,int)", "int walker(int,int)",
        "int passes(int,int)", "int days(int)", "int now(int)", "int anew()", "int steps(int,int)",
        "int way(int,int,int)", "int stones(int,int)", "int joined(int,int)", "int likes(int)", "int byTurns(int,int)",
        "int apart(int,int)", "int rate(int,int)", "int keep(int)", "int back(int)", "int count(int)", "long trace()");
    private static final Set<String> CONSTANTS = Set.of("BAD", "STATE", "FULL", "NONE", "NO");
    private static final Set<String> LIBRARY = Set.of(
        "java.lang.Integer.bitCount(int)", "java.lang.Math.min(int,int)", "java.lang.Math.max(int,int)",
        "java.lang.String.length()", "java.lang.String.charAt(int)",
        "java.lang.System.arraycopy(java.lang.Object,int,java.lang.Object,int,int)", "java.lang.Object.Object()");
    private static final Set<String> TYPES = Set.of("int", "long", "boolean", "char", "int[]", "java.lang.String");
    /** The methods that look at an index ahead of its use; no other one uses any. */
    private static final Set<String> LOOK_AT_THE_INDEX = Set.of("at", "put", "byteAt");
    private static final int MOST_DEEP = 8;

    private static int wrong = 0;

    public static void main(String[] args) throws IOException {
        face();
        for (Class<?> inside : MoorStones.class.getDeclaredClasses()) {
            inside(inside);
        }
        if (MoorStones.class.getDeclaredClasses().length > 11) {
            tell("11: more than twelve classes");
        }
        signs(Files.readString(Path.of(args[0])));
        source(args[0]);
        System.out.println(wrong == 0 ? "the rules that were looked at are kept" : wrong + " rules are broken");
        if (wrong != 0) {
            System.exit(1);
        }
    }

    private static void tell(String what) {
        wrong++;
        System.out.println("rule " + what);
    }

    private static void face() {
        if (MoorStones.class.getModifiers() != (Modifier.PUBLIC | Modifier.FINAL)) {
            tell("1: the class is not public and final alone");
        }
        Set<String> methods = new TreeSet<>();
        for (Method m : MoorStones.class.getDeclaredMethods()) {
            if (Modifier.isPublic(m.getModifiers())) {
                methods.add(signature(m));
            } else {
                hidden(m.getModifiers(), m.toString());
                namedApart(m);
            }
        }
        if (!methods.equals(FACE)) {
            tell("1: the public methods are " + methods);
        }
        Set<String> fields = new TreeSet<>();
        for (Field f : MoorStones.class.getDeclaredFields()) {
            if (Modifier.isPublic(f.getModifiers())) {
                fields.add(f.getName());
            } else {
                hidden(f.getModifiers(), f.toString());
            }
        }
        if (!fields.equals(CONSTANTS)) {
            tell("1: the public fields are " + fields);
        }
        Constructor<?>[] made = MoorStones.class.getDeclaredConstructors();
        if (made.length != 1 || made[0].getParameterCount() != 0 || !Modifier.isPublic(made[0].getModifiers())) {
            tell("1: not the one public constructor");
        }
        fieldsOf(MoorStones.class);
    }

    private static String signature(Method m) {
        StringBuilder text = new StringBuilder(m.getReturnType().getName() + " " + m.getName() + "(");
        for (Class<?> type : m.getParameterTypes()) {
            text.append(text.charAt(text.length() - 1) == '(' ? "" : ",").append(type.getName());
        }
        return text + ")";
    }

    private static void hidden(int modifiers, String what) {
        if (!Modifier.isPrivate(modifiers)) {
            tell("1: not private: " + what);
        }
    }

    private static void namedApart(Method m) {
        if (FACE.stream().anyMatch(f -> f.contains(" " + m.getName() + "("))) {
            tell("1: has the name of a public one: " + m);
        }
    }

    private static void inside(Class<?> inside) {
        int modifiers = inside.getModifiers();
        if (Modifier.isPublic(modifiers) || Modifier.isProtected(modifiers) || !Modifier.isStatic(modifiers)) {
            tell("1, 2: " + inside);
        }
        for (Method m : inside.getDeclaredMethods()) {
            namedApart(m);
        }
        fieldsOf(inside);
    }

    private static void fieldsOf(Class<?> type) {
        int fields = 0;
        for (Field f : type.getDeclaredFields()) {
            if (!Modifier.isStatic(f.getModifiers())) {
                fields++;
            } else if (!Modifier.isFinal(f.getModifiers())) {
                tell("5: static and not final: " + f);
            }
        }
        if (fields > 20) {
            tell("11: more than twenty fields: " + type);
        }
    }

    /** Rules 1 and 4: no package line, no import, and no sign but 1 to 127. */
    private static void signs(String source) {
        if (source.matches("(?s).*(^|\n)\\s*(import|package)\\b.*")) {
            tell("1, 4: a package line or an import");
        }
        if (!source.matches("[\\n\\x20-\\x7e]*")) {
            tell("4: a sign that is not plain");
        }
    }

    private static void source(String path) throws IOException {
        JavaCompiler javac = ToolProvider.getSystemJavaCompiler();
        try (StandardJavaFileManager files = javac.getStandardFileManager(null, null, null)) {
            JavacTask task = (JavacTask) javac.getTask(null, files, null, List.of("--release", "17", "-proc:none"), null,
                files.getJavaFileObjects(path));
            Rules rules = new Rules(Trees.instance(task));
            Iterable<? extends CompilationUnitTree> units = task.parse();
            task.analyze();
            for (CompilationUnitTree unit : units) {
                rules.lines = unit;
                rules.scan(unit, null);
            }
            rules.depths();
        }
    }

    /** Goes through the whole source, and keeps who calls whom. */
    private static final class Rules extends TreePathScanner<Void, Void> {
        private final Trees trees;
        private final Map<String, Set<String>> callsOf = new TreeMap<>();
        private final Map<String, Integer> depthOf = new HashMap<>();
        private CompilationUnitTree lines;
        private MethodTree method;

        Rules(Trees trees) {
            this.trees = trees;
        }

        private long lineAt(long position) {
            return lines.getLineMap().getLineNumber(position);
        }

        private void broken(String rule, Tree tree) {
            tell(rule + ": line " + lineAt(trees.getSourcePositions().getStartPosition(lines, tree)) + ": " + tree);
        }

        private boolean inConstructor() {
            return method != null && method.getReturnType() == null;
        }

        private static String nameOf(Element e) {
            return e.getEnclosingElement() + "." + (e.toString().startsWith("<init>") ? "new" + e : e);
        }

        @Override
        public Void visitMethod(MethodTree tree, Void v) {
            MethodTree around = method;
            method = tree;
            callsOf.putIfAbsent(nameOf(trees.getElement(getCurrentPath())), new TreeSet<>());
            long from = lineAt(trees.getSourcePositions().getStartPosition(lines, tree));
            long to = lineAt(trees.getSourcePositions().getEndPosition(lines, tree));
            if (to - from > 60) {
                tell("11: a long method: " + tree.getName());
            }
            if (tree.getParameters().size() > 7) {
                tell("11: more than seven parameters: " + tree.getName());
            }
            super.visitMethod(tree, v);
            method = around;
            return null;
        }

        private void called(Element e) {
            String name = nameOf(e);
            if (name.startsWith("MoorStones")) {
                Element caller = trees.getElement(pathOfMethod());
                callsOf.computeIfAbsent(nameOf(caller), k -> new TreeSet<>()).add(name);
            } else if (!LIBRARY.contains(name)) {
                tell("4: " + name);
            }
        }

        private TreePath pathOfMethod() {
            TreePath path = getCurrentPath();
            while (path.getLeaf() != method) {
                path = path.getParentPath();
            }
            return path;
        }

        @Override
        public Void visitMethodInvocation(MethodInvocationTree tree, Void v) {
            called(trees.getElement(getCurrentPath()));
            return super.visitMethodInvocation(tree, v);
        }

        @Override
        public Void visitNewClass(NewClassTree tree, Void v) {
            if (!inConstructor() || tree.getClassBody() != null) {
                broken("2, 12", tree);
            } else {
                called(trees.getElement(getCurrentPath()));
            }
            return super.visitNewClass(tree, v);
        }

        /** An array's length is told as a constant, so that it is below 0 never. */
        @Override
        public Void visitNewArray(NewArrayTree tree, Void v) {
            if (!inConstructor() || tree.getDimensions().size() != 1) {
                broken("12", tree);
            }
            return super.visitNewArray(tree, v);
        }

        @Override
        public Void visitArrayAccess(ArrayAccessTree tree, Void v) {
            if (method == null || !LOOK_AT_THE_INDEX.contains(method.getName().toString())) {
                broken("7: an index", tree);
            }
            return super.visitArrayAccess(tree, v);
        }

        @Override
        public Void visitBinary(BinaryTree tree, Void v) {
            boolean divides = tree.getKind() == Tree.Kind.DIVIDE || tree.getKind() == Tree.Kind.REMAINDER;
            if (divides && !isNumberAboveNought(tree.getRightOperand())) {
                broken("7: a divisor", tree);
            }
            TypeMirror type = trees.getTypeMirror(getCurrentPath());
            if (!type.getKind().isPrimitive()) {
                broken("10", tree);
            }
            return super.visitBinary(tree, v);
        }

        private static boolean isNumberAboveNought(ExpressionTree tree) {
            return tree instanceof LiteralTree && ((LiteralTree) tree).getValue() instanceof Integer
                && (Integer) ((LiteralTree) tree).getValue() > 0;
        }

        @Override
        public Void visitCompoundAssignment(CompoundAssignmentTree tree, Void v) {
            if (tree.getKind() == Tree.Kind.DIVIDE_ASSIGNMENT || tree.getKind() == Tree.Kind.REMAINDER_ASSIGNMENT) {
                broken("7: a divisor", tree);
            }
            return super.visitCompoundAssignment(tree, v);
        }

        @Override
        public Void visitTypeCast(TypeCastTree tree, Void v) {
            if (!trees.getTypeMirror(getCurrentPath()).getKind().isPrimitive()) {
                broken("7: a cast", tree);
            }
            return super.visitTypeCast(tree, v);
        }

        @Override
        public Void visitVariable(VariableTree tree, Void v) {
            TypeMirror type = trees.getTypeMirror(getCurrentPath());
            boolean own = type.getKind() == TypeKind.DECLARED && type.toString().startsWith("MoorStones.");
            if (!own && !TYPES.contains(type.toString())) {
                broken("3", tree);
            }
            return super.visitVariable(tree, v);
        }

        private void bounded(ExpressionTree condition, Tree loop) {
            if (condition == null || !condition.toString().matches("(?s).* (<|<=|>|>=) .*")) {
                broken("9", loop);
            }
        }

        @Override
        public Void visitWhileLoop(WhileLoopTree tree, Void v) {
            bounded(tree.getCondition(), tree);
            return super.visitWhileLoop(tree, v);
        }

        @Override
        public Void visitForLoop(ForLoopTree tree, Void v) {
            bounded(tree.getCondition(), tree);
            if (tree.getUpdate().isEmpty()) {
                broken("9", tree);
            }
            return super.visitForLoop(tree, v);
        }

        @Override
        public Void visitDoWhileLoop(DoWhileLoopTree tree, Void v) {
            bounded(tree.getCondition(), tree);
            return super.visitDoWhileLoop(tree, v);
        }

        @Override
        public Void visitLambdaExpression(LambdaExpressionTree tree, Void v) {
            broken("2", tree);
            return null;
        }

        @Override
        public Void visitMemberReference(MemberReferenceTree tree, Void v) {
            broken("2", tree);
            return null;
        }

        @Override
        public Void visitThrow(ThrowTree tree, Void v) {
            broken("6", tree);
            return null;
        }

        @Override
        public Void visitTry(TryTree tree, Void v) {
            broken("6", tree);
            return null;
        }

        @Override
        public Void visitSynchronized(SynchronizedTree tree, Void v) {
            broken("6", tree);
            return null;
        }

        @Override
        public Void visitAssert(AssertTree tree, Void v) {
            broken("6", tree);
            return null;
        }

        // ---- rules 8 and 11: no recursion, and calls not too deep

        void depths() {
            for (String name : callsOf.keySet()) {
                int depth = depth(name, new ArrayList<>());
                if (depth > MOST_DEEP) {
                    tell("11: calls go " + depth + " deep from " + name);
                }
            }
        }

        private int depth(String name, List<String> open) {
            if (open.contains(name)) {
                tell("8: recursion: " + open + " " + name);
                return 0;
            }
            if (!depthOf.containsKey(name)) {
                open.add(name);
                int deepest = 0;
                for (String called : callsOf.getOrDefault(name, Set.of())) {
                    deepest = Math.max(deepest, depth(called, open));
                }
                open.remove(open.size() - 1);
                depthOf.put(name, 1 + deepest);
            }
            return depthOf.get(name);
        }
    }
}
