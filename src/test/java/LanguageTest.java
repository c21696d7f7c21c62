import com.sun.source.tree.AssertTree;
import com.sun.source.tree.BinaryTree;
import com.sun.source.tree.BlockTree;
import com.sun.source.tree.ClassTree;
import com.sun.source.tree.CompilationUnitTree;
import com.sun.source.tree.LambdaExpressionTree;
import com.sun.source.tree.LineMap;
import com.sun.source.tree.MemberReferenceTree;
import com.sun.source.tree.MethodInvocationTree;
import com.sun.source.tree.MethodTree;
import com.sun.source.tree.NewArrayTree;
import com.sun.source.tree.NewClassTree;
import com.sun.source.tree.SynchronizedTree;
import com.sun.source.tree.ThrowTree;
import com.sun.source.tree.Tree;
import com.sun.source.tree.TryTree;
import com.sun.source.tree.VariableTree;
import com.sun.source.util.JavacTask;
import com.sun.source.util.TreePath;
import com.sun.source.util.TreePathScanner;
import com.sun.source.util.Trees;
import java.io.IOException;
import java.nio.file.Path;
import java.util.HashMap;
import java.util.HashSet;
import java.util.LinkedHashSet;
import java.util.List;
import java.util.Map;
import java.util.Set;
import javax.lang.model.element.Element;
import javax.lang.model.element.ElementKind;
import javax.lang.model.element.Modifier;
import javax.lang.model.element.TypeElement;
import javax.tools.JavaCompiler;
import javax.tools.StandardJavaFileManager;
import javax.tools.ToolProvider;

/** The rules of ../shared/LANGUAGE.md, as far as the tree of the program shows whether they are kept. */
public final class LanguageTest {
    private static final Path PROGRAM = Path.of("src/main/java/ParkingGarage.java");
    private static final Set<String> LIBRARY = Set.of("Math.max", "Math.min", "Math.abs", "System.arraycopy",
            "String.length", "String.charAt", "Object.<init>");
    private static final Set<String> TYPES = Set.of("int", "boolean", "char", "void", "java.lang.String");
    private static final int MOST_PARAMETERS = 7;
    private static final int MOST_LINES = 60;
    private static final int MOST_CLASSES = 12;
    private static final int MOST_FIELDS = 20;
    private static final int MOST_OPEN_CALLS = 8;
    private static final Check CHECK = new Check("LanguageTest");

    private LanguageTest() {
    }

    public static void main(String[] arguments) throws IOException {
        JavaCompiler compiler = ToolProvider.getSystemJavaCompiler();
        try (StandardJavaFileManager files = compiler.getStandardFileManager(null, null, null)) {
            JavacTask task = (JavacTask) compiler.getTask(null, files, null, List.of("-proc:none"), null,
                    files.getJavaFileObjects(PROGRAM));
            CompilationUnitTree unit = task.parse().iterator().next();
            task.analyze();
            Reader reader = new Reader(Trees.instance(task), unit);
            reader.scan(unit, null);
            CHECK.due("rule 1: classes beside each other in the file", unit.getTypeDecls().size(), 1);
            CHECK.due("rule 4: imports", unit.getImports().size(), 0);
            CHECK.holds("rule 11: " + reader.classes + " classes", reader.classes <= MOST_CLASSES);
            calls(reader);
        }
        CHECK.end();
    }

    /** Rules 8 and 11: no call leads back to its own method, and no more than eight stand open at once. */
    private static void calls(Reader reader) {
        for (Element method : reader.calls.keySet()) {
            int depth = depth(reader, method, new LinkedHashSet<>());
            CHECK.holds("rule 11: " + method + " stands at the head of " + depth + " calls", depth <= MOST_OPEN_CALLS);
        }
    }

    private static int depth(Reader reader, Element method, Set<Element> open) {
        if (!open.add(method)) {
            CHECK.holds("rule 8: " + open + " lead back to " + method, false);
            return 1;
        }
        int deepest = 0;
        for (Element called : reader.calls.getOrDefault(method, Set.of())) {
            deepest = Math.max(deepest, depth(reader, called, open));
        }
        open.remove(method);
        return deepest + 1;
    }

    private static final class Reader extends TreePathScanner<Void, Void> {
        final Map<Element, Set<Element>> calls = new HashMap<>();
        int classes = 0;
        private final Trees trees;
        private final CompilationUnitTree unit;
        private final Set<String> face = new HashSet<>();

        Reader(Trees trees, CompilationUnitTree unit) {
            this.trees = trees;
            this.unit = unit;
        }

        @Override
        public Void visitClass(ClassTree tree, Void nothing) {
            classes++;
            String name = tree.getSimpleName().toString();
            Set<Modifier> modifiers = tree.getModifiers().getFlags();
            boolean outside = getCurrentPath().getParentPath().getLeaf() == unit;
            boolean inside = modifiers.contains(Modifier.STATIC) && !modifiers.contains(Modifier.PUBLIC)
                    && !modifiers.contains(Modifier.PROTECTED);
            CHECK.holds("rule 1: the modifiers of " + name,
                    outside ? modifiers.equals(Set.of(Modifier.PUBLIC, Modifier.FINAL)) : inside);
            int fields = 0;
            for (Tree member : tree.getMembers()) {
                if (outside && member instanceof MethodTree method && isPublic(method)) {
                    face.add(method.getName().toString());
                }
                if (member instanceof VariableTree field && !field.getModifiers().getFlags().contains(Modifier.STATIC)) {
                    fields++;
                }
                CHECK.holds("rule 5: a block of " + name, !(member instanceof BlockTree));
            }
            CHECK.holds("rule 11: " + name + " has " + fields + " fields", fields <= MOST_FIELDS);
            return super.visitClass(tree, nothing);
        }

        private static boolean isPublic(MethodTree method) {
            return method.getModifiers().getFlags().contains(Modifier.PUBLIC);
        }

        @Override
        public Void visitMethod(MethodTree tree, Void nothing) {
            String name = tree.getName().toString();
            CHECK.holds("rule 1: the name of " + name, isPublic(tree) || name.equals("<init>") || !face.contains(name));
            CHECK.holds("rule 11: the parameters of " + name, tree.getParameters().size() <= MOST_PARAMETERS);
            LineMap lines = unit.getLineMap();
            long first = lines.getLineNumber(trees.getSourcePositions().getStartPosition(unit, tree));
            long last = lines.getLineNumber(Math.max(trees.getSourcePositions().getEndPosition(unit, tree), 0));
            CHECK.holds("rule 11: the lines of " + name, last - first < MOST_LINES);
            calls.computeIfAbsent(trees.getElement(getCurrentPath()), method -> new LinkedHashSet<>());
            return super.visitMethod(tree, nothing);
        }

        @Override
        public Void visitVariable(VariableTree tree, Void nothing) {
            Element variable = trees.getElement(getCurrentPath());
            Set<Modifier> modifiers = tree.getModifiers().getFlags();
            CHECK.holds("rule 5: " + tree, !modifiers.contains(Modifier.STATIC) || modifiers.contains(Modifier.FINAL));
            boolean own = variable.getKind() == ElementKind.FIELD && modifiers.contains(Modifier.STATIC);
            CHECK.holds("rule 5: " + tree + " is written out", !own || tree.getInitializer() != null
                    && !(tree.getInitializer() instanceof MethodInvocationTree)
                    && !(tree.getInitializer() instanceof NewClassTree)
                    && !(tree.getInitializer() instanceof NewArrayTree array && array.getInitializers() == null));
            String type = variable.asType().toString().replaceFirst("\\[\\]$", "");
            CHECK.holds("rule 3: the type " + type, TYPES.contains(type) || type.startsWith("ParkingGarage"));
            return super.visitVariable(tree, nothing);
        }

        @Override
        public Void visitMethodInvocation(MethodInvocationTree tree, Void nothing) {
            call(trees.getElement(new TreePath(getCurrentPath(), tree.getMethodSelect())));
            return super.visitMethodInvocation(tree, nothing);
        }

        @Override
        public Void visitNewClass(NewClassTree tree, Void nothing) {
            CHECK.holds("rule 2: a class without a name", tree.getClassBody() == null);
            call(trees.getElement(getCurrentPath()));
            return super.visitNewClass(tree, nothing);
        }

        /** The initializer of a field is carried out by the constructors of its class: its calls are theirs. */
        private void call(Element called) {
            Element owner = called.getEnclosingElement();
            String name = owner.getSimpleName() + "." + called.getSimpleName();
            boolean own = owner instanceof TypeElement type && type.getQualifiedName().toString()
                    .startsWith("ParkingGarage");
            CHECK.holds("rule 4: the call of " + name, own || LIBRARY.contains(name));
            TreePath path = getCurrentPath();
            while (path.getParentPath() != null && !(path.getLeaf() instanceof MethodTree)
                    && !(path.getLeaf() instanceof ClassTree)) {
                path = path.getParentPath();
            }
            Element caller = trees.getElement(path);
            List<? extends Element> callers = path.getLeaf() instanceof MethodTree ? List.of(caller)
                    : caller.getEnclosedElements().stream().filter(e -> e.getKind() == ElementKind.CONSTRUCTOR).toList();
            for (Element each : callers) {
                calls.computeIfAbsent(each, method -> new LinkedHashSet<>()).add(called);
            }
        }

        /** Rules 6 and 10: no operator has a String. */
        @Override
        public Void visitBinary(BinaryTree tree, Void nothing) {
            for (Tree side : List.of(tree.getLeftOperand(), tree.getRightOperand())) {
                String type = String.valueOf(trees.getTypeMirror(new TreePath(getCurrentPath(), side)));
                CHECK.holds("rules 6 and 10: " + tree, !type.equals("java.lang.String"));
            }
            return super.visitBinary(tree, nothing);
        }

        @Override
        public Void visitThrow(ThrowTree tree, Void nothing) {
            CHECK.holds("rule 6: throw", false);
            return super.visitThrow(tree, nothing);
        }

        @Override
        public Void visitTry(TryTree tree, Void nothing) {
            CHECK.holds("rule 6: try", false);
            return super.visitTry(tree, nothing);
        }

        @Override
        public Void visitSynchronized(SynchronizedTree tree, Void nothing) {
            CHECK.holds("rule 6: synchronized", false);
            return super.visitSynchronized(tree, nothing);
        }

        @Override
        public Void visitAssert(AssertTree tree, Void nothing) {
            CHECK.holds("rule 6: assert", false);
            return super.visitAssert(tree, nothing);
        }

        @Override
        public Void visitLambdaExpression(LambdaExpressionTree tree, Void nothing) {
            CHECK.holds("rule 2: a lambda", false);
            return super.visitLambdaExpression(tree, nothing);
        }

        @Override
        public Void visitMemberReference(MemberReferenceTree tree, Void nothing) {
            CHECK.holds("rule 2: a method reference", false);
            return super.visitMemberReference(tree, nothing);
        }
    }
}
