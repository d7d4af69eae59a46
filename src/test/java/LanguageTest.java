import com.sun.source.tree.BinaryTree;
import com.sun.source.tree.CompilationUnitTree;
import com.sun.source.tree.MethodInvocationTree;
import com.sun.source.tree.MethodTree;
import com.sun.source.tree.NewClassTree;
import com.sun.source.tree.Tree;
import com.sun.source.tree.VariableTree;
import com.sun.source.util.JavacTask;
import com.sun.source.util.TreePathScanner;
import com.sun.source.util.Trees;
import java.io.IOException;
import java.nio.charset.StandardCharsets;
import java.nio.file.Files;
import java.nio.file.Path;
import java.util.EnumSet;
import java.util.List;
import java.util.Set;
import java.util.TreeMap;
import java.util.TreeSet;
import javax.lang.model.element.Element;
import javax.lang.model.element.ElementKind;
import javax.lang.model.element.Modifier;
import javax.tools.JavaCompiler;
import javax.tools.StandardJavaFileManager;
import javax.tools.ToolProvider;

/** The program keeps to what ../shared/LANGUAGE.md allows, as far as it uses it. */
public final class LanguageTest {
    private static final Path PROGRAM = Path.of("src/main/java/HutBookings.java");
    private static final int DEEPEST = 8;
    private static final int LINES_MOST = 60;
    private static final int PARAMETERS_MOST = 7;
    private static final int CLASSES_MOST = 12;
    private static final int FIELDS_MOST = 20;
    private static final Set<String> LIBRARY = Set.of("java.lang.Object.<init>", "java.lang.System.arraycopy",
        "java.util.Arrays.fill", "java.lang.Math.max", "java.lang.Math.min", "java.lang.Math.floorMod");
    // The program needs none of these, though LANGUAGE.md allows some of them within bounds.
    private static final Set<Tree.Kind> UNUSED = EnumSet.of(Tree.Kind.LAMBDA_EXPRESSION,
        Tree.Kind.MEMBER_REFERENCE, Tree.Kind.TRY, Tree.Kind.THROW, Tree.Kind.ASSERT, Tree.Kind.SYNCHRONIZED,
        Tree.Kind.INSTANCE_OF, Tree.Kind.SWITCH_EXPRESSION, Tree.Kind.STRING_LITERAL, Tree.Kind.DIVIDE_ASSIGNMENT,
        Tree.Kind.REMAINDER, Tree.Kind.REMAINDER_ASSIGNMENT);

    private static final Due due = new Due("LanguageTest");

    /** What each method calls, by their names. */
    private final TreeMap<String, TreeSet<String>> calls = new TreeMap<>();
    private final TreeMap<String, Integer> fields = new TreeMap<>();
    private final TreeSet<String> publicMethods = new TreeSet<>();
    private final TreeSet<String> otherMethods = new TreeSet<>();
    private final TreeMap<String, Integer> depths = new TreeMap<>();

    public static void main(String[] args) throws IOException {
        LanguageTest test = new LanguageTest();
        test.readSigns();
        test.readProgram();
        test.lookAtNames();
        test.lookAtDepths();
        due.end();
    }

    private void readSigns() throws IOException {
        String program = Files.readString(PROGRAM, StandardCharsets.UTF_8);
        for (int i = 0; i < program.length(); i++) {
            char sign = program.charAt(i);
            due.holds("the sign at " + i + " is ASCII", sign == '\n' || sign >= ' ' && sign <= '~');
        }
    }

    private void readProgram() throws IOException {
        JavaCompiler compiler = ToolProvider.getSystemJavaCompiler();
        try (StandardJavaFileManager files = compiler.getStandardFileManager(null, null, StandardCharsets.UTF_8)) {
            JavacTask task = (JavacTask) compiler.getTask(null, files, null, List.of("-proc:none"), null,
                files.getJavaFileObjects(PROGRAM));
            Iterable<? extends CompilationUnitTree> units = task.parse();
            task.analyze();
            for (CompilationUnitTree unit : units) {
                new Reader(Trees.instance(task), unit).scan(unit, null);
            }
        }
    }

    private void lookAtNames() {
        for (String method : otherMethods) {
            due.holds("no other method is called as the public one " + method, !publicMethods.contains(method));
        }
        due.holds("there are some twelve classes at most", fields.size() <= CLASSES_MOST);
        for (String owner : fields.keySet()) {
            due.holds(owner + " has some twenty fields at most", fields.get(owner) <= FIELDS_MOST);
        }
    }

    private void lookAtDepths() {
        for (String method : calls.keySet()) {
            int depth = depthOf(method, new TreeSet<>());
            due.holds(method + " goes " + depth + " calls deep, not more than " + DEEPEST, depth <= DEEPEST);
        }
    }

    /** How many calls are open at once, that of the method and those of the library among them. */
    private int depthOf(String method, TreeSet<String> open) {
        if (depths.containsKey(method)) {
            return depths.get(method);
        }
        due.holds(method + " does not call itself", !open.contains(method));
        if (!calls.containsKey(method) || !open.add(method)) {
            return 1;
        }
        int deepest = 0;
        for (String called : calls.get(method)) {
            deepest = Math.max(deepest, depthOf(called, open));
        }
        open.remove(method);
        depths.put(method, deepest + 1);
        return deepest + 1;
    }

    /** Goes through the program as the compiler understood it. */
    private final class Reader extends TreePathScanner<Void, Void> {
        private final Trees trees;
        private final CompilationUnitTree unit;
        private String method = "";

        Reader(Trees trees, CompilationUnitTree unit) {
            this.trees = trees;
            this.unit = unit;
        }

        @Override
        public Void scan(Tree tree, Void nothing) {
            if (tree != null) {
                due.holds(tree.getKind() + " is not used (line " + lineOf(tree) + ")",
                    !UNUSED.contains(tree.getKind()));
            }
            return super.scan(tree, nothing);
        }

        @Override
        public Void visitMethod(MethodTree tree, Void nothing) {
            Element element = trees.getElement(getCurrentPath());
            boolean isPublic = element.getModifiers().contains(Modifier.PUBLIC);
            if (element.getKind() == ElementKind.METHOD) {
                (isPublic ? publicMethods : otherMethods).add(element.getSimpleName().toString());
            }
            method = nameOf(element);
            calls.put(method, new TreeSet<>());
            due.holds(method + " has few parameters", tree.getParameters().size() <= PARAMETERS_MOST);
            due.holds(method + " is short", linesOf(tree) <= LINES_MOST);
            return super.visitMethod(tree, nothing);
        }

        @Override
        public Void visitMethodInvocation(MethodInvocationTree tree, Void nothing) {
            isCalled(trees.getElement(getCurrentPath()));
            return super.visitMethodInvocation(tree, nothing);
        }

        @Override
        public Void visitNewClass(NewClassTree tree, Void nothing) {
            isCalled(trees.getElement(getCurrentPath()));
            return super.visitNewClass(tree, nothing);
        }

        private void isCalled(Element element) {
            String called = nameOf(element);
            calls.get(method).add(called);
            due.holds(called + " is the program's own, or stands in LANGUAGE.md",
                called.startsWith("HutBookings.") || LIBRARY.contains(called));
        }

        @Override
        public Void visitVariable(VariableTree tree, Void nothing) {
            Element element = trees.getElement(getCurrentPath());
            if (element.getKind() == ElementKind.FIELD) {
                boolean isStatic = element.getModifiers().contains(Modifier.STATIC);
                due.holds("the static field " + element + " is final",
                    !isStatic || element.getModifiers().contains(Modifier.FINAL));
                fields.merge(element.getEnclosingElement().toString(), isStatic ? 0 : 1, Integer::sum);
            }
            return super.visitVariable(tree, nothing);
        }

        @Override
        public Void visitBinary(BinaryTree tree, Void nothing) {
            if (tree.getKind() == Tree.Kind.DIVIDE) {
                due.is("the method that divides is use", method.equals("HutBookings.use") ? 1 : 0, 1);
            }
            return super.visitBinary(tree, nothing);
        }

        private String nameOf(Element element) {
            return element.getEnclosingElement() + "." + element.getSimpleName();
        }

        private long lineOf(Tree tree) {
            long start = trees.getSourcePositions().getStartPosition(unit, tree);
            return start < 0 ? 0 : unit.getLineMap().getLineNumber(start);
        }

        private long linesOf(Tree tree) {
            long end = trees.getSourcePositions().getEndPosition(unit, tree);
            return end < 0 ? 0 : unit.getLineMap().getLineNumber(end) - lineOf(tree) + 1;
        }
    }
}
