import com.sun.source.tree.AssertTree;
import com.sun.source.tree.BinaryTree;
import com.sun.source.tree.BlockTree;
import com.sun.source.tree.ClassTree;
import com.sun.source.tree.CompilationUnitTree;
import com.sun.source.tree.ExpressionTree;
import com.sun.source.tree.ImportTree;
import com.sun.source.tree.LambdaExpressionTree;
import com.sun.source.tree.LineMap;
import com.sun.source.tree.MemberReferenceTree;
import com.sun.source.tree.MemberSelectTree;
import com.sun.source.tree.MethodInvocationTree;
import com.sun.source.tree.MethodTree;
import com.sun.source.tree.NewClassTree;
import com.sun.source.tree.SynchronizedTree;
import com.sun.source.tree.ThrowTree;
import com.sun.source.tree.Tree;
import com.sun.source.tree.TryTree;
import com.sun.source.tree.VariableTree;
import com.sun.source.util.JavacTask;
import com.sun.source.util.SourcePositions;
import com.sun.source.util.TreePath;
import com.sun.source.util.TreePathScanner;
import com.sun.source.util.Trees;
import java.io.IOException;
import java.util.HashMap;
import java.util.HashSet;
import java.util.LinkedHashMap;
import java.util.LinkedHashSet;
import java.util.Map;
import java.util.Set;
import java.util.TreeSet;
import javax.lang.model.element.Element;
import javax.lang.model.element.ExecutableElement;
import javax.lang.model.element.Modifier;
import javax.lang.model.element.TypeElement;
import javax.tools.JavaCompiler;
import javax.tools.StandardJavaFileManager;
import javax.tools.ToolProvider;

/** The rules of LANGUAGE.md that can be seen in the source. */
public final class LanguageTest {
    private static final String SOURCE = "src/main/java/TreatyClaims.java";
    private static final Set<String> IMPORTS = Set.of("java.util.ArrayList", "java.util.Arrays");
    private static final Set<String> LIBRARY = Set.of("String.length", "String.charAt", "ArrayList.add", "ArrayList.get",
        "ArrayList.size", "Arrays.fill", "Math.min", "Math.max", "Integer.bitCount", "Long.bitCount", "Object.<init>",
        "ArrayList.<init>");
    private static final Set<String> FACE = Set.of("feed", "end", "pass", "person", "nation", "dead", "heir", "nationOn",
        "deadOn", "heirOn", "rate", "rateOn", "sides", "rules", "fault", "force", "rule", "need", "kind", "thing", "lost",
        "claim", "mark", "paper", "forged", "fails", "points", "lacks", "weakest", "beside", "withdraw", "about", "due",
        "vote", "umpire", "lots", "lot", "like", "tests", "test", "spread", "again", "fund", "wave", "last", "purse",
        "count", "NONE", "RANGE", "FULL", "STATE", "<init>");

    public static void main(String[] args) throws IOException {
        Checks checks = new Checks();
        JavaCompiler compiler = ToolProvider.getSystemJavaCompiler();
        try (StandardJavaFileManager files = compiler.getStandardFileManager(null, null, null)) {
            JavacTask task = (JavacTask) compiler.getTask(null, files, null, null, null, files.getJavaFileObjects(SOURCE));
            for (CompilationUnitTree unit : task.parse()) {
                task.analyze();
                Reader reader = new Reader(checks, unit, Trees.instance(task));
                reader.scan(new TreePath(unit), null);
                reader.close();
            }
        }
        checks.close("LanguageTest");
    }

    private static final class Reader extends TreePathScanner<Void, Void> {
        private final Checks checks;
        private final CompilationUnitTree unit;
        private final Trees trees;
        private final Map<ExecutableElement, Set<ExecutableElement>> calls = new LinkedHashMap<>();
        private final Set<String> face = new TreeSet<>();
        private int classes;

        Reader(Checks checks, CompilationUnitTree unit, Trees trees) {
            this.checks = checks;
            this.unit = unit;
            this.trees = trees;
        }

        private long line(Tree tree) {
            return unit.getLineMap().getLineNumber(trees.getSourcePositions().getStartPosition(unit, tree));
        }

        private void never(String what, Tree tree) {
            checks.holds("rule: " + what + " in line " + line(tree), false);
        }

        @Override
        public Void visitImport(ImportTree tree, Void none) {
            checks.holds("rule 4: import " + tree.getQualifiedIdentifier(),
                IMPORTS.contains(tree.getQualifiedIdentifier().toString()));
            return null;
        }

        @Override
        public Void visitClass(ClassTree tree, Void none) {
            classes++;
            TypeElement type = (TypeElement) trees.getElement(getCurrentPath());
            boolean outer = type.getQualifiedName().contentEquals("TreatyClaims");
            Set<Modifier> modifiers = type.getModifiers();
            if (outer) {
                checks.holds("rule 1: public and final", modifiers.equals(Set.of(Modifier.PUBLIC, Modifier.FINAL)));
            } else {
                checks.holds("rule 2: " + type + " is static", modifiers.contains(Modifier.STATIC));
                checks.holds("rule 1: " + type + " isn't public", !modifiers.contains(Modifier.PUBLIC)
                    && !modifiers.contains(Modifier.PROTECTED));
            }
            int fields = 0;
            for (Element member : type.getEnclosedElements()) {
                boolean isField = member.getKind().isField();
                fields += isField && !member.getModifiers().contains(Modifier.STATIC) ? 1 : 0;
                if (outer && !member.getKind().isClass() && !member.getModifiers().contains(Modifier.PRIVATE)) {
                    face.add(member.getSimpleName().toString());
                    checks.holds("rule 1: " + member + " is public", member.getModifiers().contains(Modifier.PUBLIC));
                }
            }
            checks.holds("rule 11: " + type + " has " + fields + " fields", fields <= 20);
            return super.visitClass(tree, none);
        }

        @Override
        public Void visitMethod(MethodTree tree, Void none) {
            SourcePositions positions = trees.getSourcePositions();
            LineMap lines = unit.getLineMap();
            ExecutableElement method = (ExecutableElement) trees.getElement(getCurrentPath());
            if (positions.getEndPosition(unit, tree) >= 0 && positions.getStartPosition(unit, tree) >= 0) {
                long length = 1 + lines.getLineNumber(positions.getEndPosition(unit, tree)) - line(tree);
                checks.holds("rule 11: " + method + " has " + length + " lines", length <= 60);
            }
            checks.holds("rule 11: parameters of " + method, tree.getParameters().size() <= 7);
            boolean isFace = method.getModifiers().contains(Modifier.PUBLIC);
            String name = method.getSimpleName().toString();
            checks.holds("rule 1: name of " + method, isFace || name.equals("<init>") || !FACE.contains(name));
            calls.putIfAbsent(method, new LinkedHashSet<>());
            return super.visitMethod(tree, none);
        }

        @Override
        public Void visitVariable(VariableTree tree, Void none) {
            Element variable = trees.getElement(getCurrentPath());
            if (variable.getModifiers().contains(Modifier.STATIC)) {
                String type = variable.asType().toString();
                checks.holds("rule 5: " + variable + " is final", variable.getModifiers().contains(Modifier.FINAL));
                checks.holds("rule 5: " + variable + " is " + type,
                    Set.of("int", "long", "boolean", "char", "java.lang.String").contains(type));
            }
            return super.visitVariable(tree, none);
        }

        private ExecutableElement within() {
            for (TreePath path = getCurrentPath(); path != null; path = path.getParentPath()) {
                if (path.getLeaf() instanceof MethodTree) {
                    return (ExecutableElement) trees.getElement(path);
                }
            }
            return null;
        }

        private void called(Element element, Tree tree) {
            ExecutableElement method = (ExecutableElement) element;
            String owner = method.getEnclosingElement().toString();
            if (owner.startsWith("TreatyClaims")) {
                if (within() != null) {
                    calls.computeIfAbsent(within(), key -> new LinkedHashSet<>()).add(method);
                }
                if (method.equals(within())) {
                    checks.holds("rule 8: " + method + ", which calls itself, is private and static",
                        method.getModifiers().containsAll(Set.of(Modifier.PRIVATE, Modifier.STATIC)));
                }
            } else {
                String simple = method.getEnclosingElement().getSimpleName() + "." + method.getSimpleName();
                checks.holds("rule 4: " + simple + " in line " + line(tree), LIBRARY.contains(simple));
            }
        }

        @Override
        public Void visitMethodInvocation(MethodInvocationTree tree, Void none) {
            called(trees.getElement(new TreePath(getCurrentPath(), tree.getMethodSelect())), tree);
            return super.visitMethodInvocation(tree, none);
        }

        @Override
        public Void visitMemberSelect(MemberSelectTree tree, Void none) {
            Element element = trees.getElement(getCurrentPath());
            boolean isRowLength = tree.getIdentifier().contentEquals("length");
            if (element != null && element.getKind().isField() && !isRowLength) {
                String owner = element.getEnclosingElement().toString();
                checks.holds("rule 4: " + tree + " in line " + line(tree), owner.startsWith("TreatyClaims"));
            }
            return super.visitMemberSelect(tree, none);
        }

        @Override
        public Void visitNewClass(NewClassTree tree, Void none) {
            if (tree.getClassBody() != null) {
                never("2, a class without a name", tree);
            }
            called(trees.getElement(getCurrentPath()), tree);
            return super.visitNewClass(tree, none);
        }

        @Override
        public Void visitBinary(BinaryTree tree, Void none) {
            boolean plus = tree.getKind() == Tree.Kind.PLUS;
            if (plus && (isText(tree.getLeftOperand()) || isText(tree.getRightOperand()))) {
                never("10, texts joined by +", tree);
            }
            return super.visitBinary(tree, none);
        }

        private boolean isText(ExpressionTree tree) {
            return "java.lang.String".equals(String.valueOf(trees.getTypeMirror(new TreePath(getCurrentPath(), tree))));
        }

        @Override
        public Void visitBlock(BlockTree tree, Void none) {
            if (tree.isStatic()) {
                never("5, a static block", tree);
            }
            return super.visitBlock(tree, none);
        }

        @Override
        public Void visitThrow(ThrowTree tree, Void none) {
            never("6, throw", tree);
            return super.visitThrow(tree, none);
        }

        @Override
        public Void visitTry(TryTree tree, Void none) {
            never("6, try", tree);
            return super.visitTry(tree, none);
        }

        @Override
        public Void visitAssert(AssertTree tree, Void none) {
            never("6, assert", tree);
            return super.visitAssert(tree, none);
        }

        @Override
        public Void visitSynchronized(SynchronizedTree tree, Void none) {
            never("6, synchronized", tree);
            return super.visitSynchronized(tree, none);
        }

        @Override
        public Void visitLambdaExpression(LambdaExpressionTree tree, Void none) {
            never("2, a lambda", tree);
            return super.visitLambdaExpression(tree, none);
        }

        @Override
        public Void visitMemberReference(MemberReferenceTree tree, Void none) {
            never("2, a method reference", tree);
            return super.visitMemberReference(tree, none);
        }

        void close() {
            checks.holds("rule 11: " + classes + " classes", classes <= 12);
            checks.holds("rule 1: the face is " + face, face.equals(new TreeSet<>(FACE)));
            Map<ExecutableElement, Integer> depths = new HashMap<>();
            Set<String> recursive = new TreeSet<>();
            for (ExecutableElement method : calls.keySet()) {
                int depth = depthOf(method, depths, new HashSet<>(), recursive);
                checks.holds("rule 11: calls from " + method + " go " + depth + " deep", depth <= 8);
            }
            checks.holds("rule 8: recursive are " + recursive, recursive.equals(Set.of("hand", "leastBesides")));
        }

        /** The longest row of calls from one on, itself counted, without those that go back into a row. */
        private int depthOf(ExecutableElement method, Map<ExecutableElement, Integer> depths,
            Set<ExecutableElement> row, Set<String> recursive) {
            if (depths.containsKey(method)) {
                return depths.get(method);
            }
            row.add(method);
            int deepest = 0;
            for (ExecutableElement next : calls.getOrDefault(method, Set.of())) {
                if (row.contains(next)) {
                    recursive.add(next.getSimpleName().toString());
                } else {
                    deepest = Math.max(deepest, depthOf(next, depths, row, recursive));
                }
            }
            row.remove(method);
            depths.put(method, deepest + 1);
            return deepest + 1;
        }
    }
}
