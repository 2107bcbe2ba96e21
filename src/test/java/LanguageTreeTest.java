import com.sun.source.tree.ArrayAccessTree;
import com.sun.source.tree.BinaryTree;
import com.sun.source.tree.ClassTree;
import com.sun.source.tree.CompilationUnitTree;
import com.sun.source.tree.ExpressionTree;
import com.sun.source.tree.ForLoopTree;
import com.sun.source.tree.IdentifierTree;
import com.sun.source.tree.LiteralTree;
import com.sun.source.tree.MethodInvocationTree;
import com.sun.source.tree.MethodTree;
import com.sun.source.tree.NewArrayTree;
import com.sun.source.tree.NewClassTree;
import com.sun.source.tree.Tree;
import com.sun.source.tree.TypeCastTree;
import com.sun.source.tree.VariableTree;
import com.sun.source.tree.WhileLoopTree;
import com.sun.source.util.JavacTask;
import com.sun.source.util.TreePath;
import com.sun.source.util.TreePathScanner;
import com.sun.source.util.Trees;
import java.io.IOException;
import java.util.ArrayList;
import java.util.HashMap;
import java.util.HashSet;
import java.util.List;
import java.util.Map;
import java.util.Set;
import java.util.TreeMap;
import java.util.TreeSet;
import javax.lang.model.element.Element;
import javax.lang.model.element.ElementKind;
import javax.lang.model.element.TypeElement;
import javax.lang.model.type.TypeKind;
import javax.lang.model.type.TypeMirror;
import javax.tools.JavaCompiler;
import javax.tools.StandardJavaFileManager;
import javax.tools.ToolProvider;

/** What of ../shared/LANGUAGE.md can be seen in the compiler's own tree: library, types, casts, divisors, calls' depth. */
public final class LanguageTreeTest {
    private static final Due due = new Due();
    private static final int DEEPEST = 8;
    private static final Set<String> LIBRARY = Set.of(
        "java.util.ArrayList.get", "java.util.ArrayList.add", "java.util.ArrayList.size", "java.util.ArrayList.<init>",
        "java.util.Arrays.fill", "java.lang.Math.min", "java.lang.Math.max", "java.lang.Math.abs",
        "java.lang.Integer.bitCount", "java.lang.String.length", "java.lang.String.charAt", "java.lang.Object.<init>");
    private static final Set<String> PARTS = Set.of(
        "SYNCHRONIZED", "THROW", "TRY", "CATCH", "ASSERT", "LAMBDA_EXPRESSION", "MEMBER_REFERENCE",
        "INSTANCE_OF", "ANNOTATION", "INTERFACE", "ENUM", "RECORD", "SWITCH_EXPRESSION", "YIELD", "ENHANCED_FOR_LOOP");

    public static void main(String[] args) throws IOException {
        JavaCompiler compiler = ToolProvider.getSystemJavaCompiler();
        due.yes("a compiler", compiler != null);
        try (StandardJavaFileManager files = compiler.getStandardFileManager(null, null, null)) {
            JavacTask task = (JavacTask) compiler.getTask(null, files, null, List.of("-proc:none"), null,
                files.getJavaFileObjects("src/main/java/RainStreets.java"));
            CompilationUnitTree unit = task.parse().iterator().next();
            task.analyze();
            Look look = new Look(Trees.instance(task));
            look.scan(unit, null);
            look.depths();
            due.yes("methods seen: " + look.calls.size(), look.calls.size() > 100);
            due.yes("divisors seen: " + look.divisors, look.divisors >= 10);
            due.yes("loops seen: " + look.loops, look.loops > 30);
            due.yes("indices seen: " + look.indices, look.indices > 10);
        }
        due.end();
    }

    private static final class Look extends TreePathScanner<Void, Void> {
        final Map<String, Set<String>> calls = new TreeMap<>();
        final Set<String> open = new TreeSet<>();
        int divisors;
        int loops;
        int indices;
        private final Trees trees;
        private final Set<String> seen = new HashSet<>();
        private String method = "";
        private String within = "";

        Look(Trees trees) {
            this.trees = trees;
        }

        private String nameOf(Element e) {
            return ((TypeElement) e.getEnclosingElement()).getQualifiedName() + "." + e.getSimpleName();
        }

        private boolean isOwn(String name) {
            return name.startsWith("RainStreets.");
        }

        @Override
        public Void scan(Tree tree, Void none) {
            if (tree != null) {
                due.no("no " + tree.getKind() + " in " + method, PARTS.contains(tree.getKind().name()));
            }
            return super.scan(tree, none);
        }

        @Override
        public Void visitMethod(MethodTree tree, Void none) {
            Element e = trees.getElement(getCurrentPath());
            method = nameOf(e);
            due.yes("one method of a name in a class: " + method, seen.add(method));
            calls.computeIfAbsent(method, m -> new TreeSet<>());
            boolean isFace = e.getEnclosingElement().getSimpleName().contentEquals("RainStreets");
            if (isFace && e.getModifiers().contains(javax.lang.model.element.Modifier.PUBLIC)) {
                open.add(method);
            }
            due.no("no throws: " + method, !tree.getThrows().isEmpty());
            super.visitMethod(tree, none);
            method = "";
            return null;
        }

        @Override
        public Void visitMethodInvocation(MethodInvocationTree tree, Void none) {
            called(trees.getElement(new TreePath(getCurrentPath(), tree.getMethodSelect())));
            return super.visitMethodInvocation(tree, none);
        }

        @Override
        public Void visitNewClass(NewClassTree tree, Void none) {
            due.yes("no anonymous class in " + method, tree.getClassBody() == null);
            called(trees.getElement(getCurrentPath()));
            return super.visitNewClass(tree, none);
        }

        private void called(Element e) {
            String name = nameOf(e);
            due.yes("of the library: " + name + " in " + method, isOwn(name) || LIBRARY.contains(name));
            // What a field begins with is made by the constructor.
            String caller = method.isEmpty() ? within + ".<init>" : method;
            calls.computeIfAbsent(caller, m -> new TreeSet<>()).add(name);
        }

        @Override
        public Void visitVariable(VariableTree tree, Void none) {
            TypeMirror type = trees.getTypeMirror(new TreePath(getCurrentPath(), tree.getType()));
            due.yes("a type of the rules: " + type + " " + tree.getName(), isType(type.toString()));
            due.no("nothing of the face's name: " + tree.getName(),
                method.isEmpty() && tree.getModifiers().getFlags().contains(javax.lang.model.element.Modifier.PUBLIC)
                && !tree.getName().contentEquals("NONE"));
            return super.visitVariable(tree, none);
        }

        private boolean isType(String type) {
            String own = "RainStreets\\.\\w+";
            return type.matches("(int|long|boolean|char)(\\[\\])?|int\\[\\]\\[\\]|java\\.lang\\.String|" + own
                + "|java\\.util\\.ArrayList<" + own + ">");
        }

        /** Casts to a wider number alone: such a cast can't fail. */
        @Override
        public Void visitTypeCast(TypeCastTree tree, Void none) {
            TypeMirror to = trees.getTypeMirror(new TreePath(getCurrentPath(), tree.getType()));
            due.yes("a cast to long in " + method, to.getKind() == TypeKind.LONG);
            return super.visitTypeCast(tree, none);
        }

        /** A divisor is a number that isn't 0, or was asked whether it's above 0 ahead in the same condition. */
        @Override
        public Void visitBinary(BinaryTree tree, Void none) {
            if (tree.getKind() == Tree.Kind.DIVIDE || tree.getKind() == Tree.Kind.REMAINDER) {
                divisors++;
                ExpressionTree by = tree.getRightOperand();
                Element e = trees.getElement(new TreePath(getCurrentPath(), by));
                boolean literal = by instanceof LiteralTree l && l.getValue() instanceof Integer n && n != 0;
                boolean constant = e != null && e.getKind() == ElementKind.FIELD
                    && ((javax.lang.model.element.VariableElement) e).getConstantValue() instanceof Integer c && c != 0;
                due.yes("a divisor that isn't 0: " + tree, literal || constant || isAsked(by.toString() + " > 0"));
            }
            due.no("texts aren't joined by +", tree.getKind() == Tree.Kind.PLUS
                && trees.getTypeMirror(getCurrentPath()).getKind() == TypeKind.DECLARED);
            return super.visitBinary(tree, none);
        }

        private boolean isAsked(String condition) {
            for (TreePath p = getCurrentPath(); p != null; p = p.getParentPath()) {
                if (p.getLeaf() instanceof BinaryTree b && b.getKind() == Tree.Kind.CONDITIONAL_AND
                    && b.getLeftOperand().toString().contains(condition)) {
                    return true;
                }
            }
            return false;
        }

        @Override
        public Void visitArrayAccess(ArrayAccessTree tree, Void none) {
            indices++;
            TypeMirror index = trees.getTypeMirror(new TreePath(getCurrentPath(), tree.getIndex()));
            due.yes("an index is an int", index.getKind() == TypeKind.INT);
            return super.visitArrayAccess(tree, none);
        }

        @Override
        public Void visitNewArray(NewArrayTree tree, Void none) {
            for (ExpressionTree length : tree.getDimensions()) {
                boolean named = length instanceof IdentifierTree || length instanceof BinaryTree || length instanceof LiteralTree;
                due.yes("arrays' lengths are constants: " + length, named && !length.toString().matches(".*[a-z].*"));
            }
            return super.visitNewArray(tree, none);
        }

        @Override
        public Void visitForLoop(ForLoopTree tree, Void none) {
            loops++;
            due.yes("a loop has a condition in " + method, tree.getCondition() != null);
            due.yes("a loop counts in " + method, tree.getUpdate().size() == 1);
            return super.visitForLoop(tree, none);
        }

        @Override
        public Void visitWhileLoop(WhileLoopTree tree, Void none) {
            loops++;
            String condition = tree.getCondition().toString();
            due.yes("a loop against a bound: " + condition, condition.matches("\\(\\w+ < end && .*"));
            return super.visitWhileLoop(tree, none);
        }

        @Override
        public Void visitClass(ClassTree tree, Void none) {
            boolean nested = getCurrentPath().getParentPath().getLeaf() instanceof ClassTree;
            boolean top = getCurrentPath().getParentPath().getLeaf() instanceof CompilationUnitTree;
            due.yes("no local class: " + tree.getSimpleName(), nested || top);
            String around = within;
            within = ((TypeElement) trees.getElement(getCurrentPath())).getQualifiedName().toString();
            super.visitClass(tree, none);
            within = around;
            return null;
        }

        void depths() {
            Map<String, Integer> depth = new HashMap<>();
            for (String each : open) {
                int deep = depth(each, depth, new HashSet<>());
                due.yes("at most eight deep: " + each + " " + deep, deep <= DEEPEST);
            }
            due.is("the face's methods and the constructor", open.size(), 36);
            List<String> idle = new ArrayList<>(calls.keySet());
            idle.removeAll(depth.keySet());
            due.is("none that nothing calls: " + idle, idle.size(), 0);
        }

        private int depth(String name, Map<String, Integer> known, Set<String> standing) {
            due.yes("no recursion: " + name, standing.add(name));
            if (!known.containsKey(name)) {
                int deepest = 0;
                for (String each : calls.getOrDefault(name, Set.of())) {
                    if (isOwn(each) && !standing.contains(each)) {
                        deepest = Math.max(deepest, depth(each, known, standing));
                    } else {
                        due.no("no recursion: " + name + " and " + each, standing.contains(each));
                    }
                }
                known.put(name, deepest + 1);
            }
            standing.remove(name);
            return known.get(name);
        }
    }
}
