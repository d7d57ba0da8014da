import com.sun.source.tree.ArrayAccessTree;
import com.sun.source.tree.AssertTree;
import com.sun.source.tree.BinaryTree;
import com.sun.source.tree.CatchTree;
import com.sun.source.tree.ClassTree;
import com.sun.source.tree.CompilationUnitTree;
import com.sun.source.tree.ImportTree;
import com.sun.source.tree.InstanceOfTree;
import com.sun.source.tree.LambdaExpressionTree;
import com.sun.source.tree.LiteralTree;
import com.sun.source.tree.MemberReferenceTree;
import com.sun.source.tree.MethodInvocationTree;
import com.sun.source.tree.MethodTree;
import com.sun.source.tree.NewArrayTree;
import com.sun.source.tree.NewClassTree;
import com.sun.source.tree.SynchronizedTree;
import com.sun.source.tree.ThrowTree;
import com.sun.source.tree.Tree;
import com.sun.source.tree.TryTree;
import com.sun.source.tree.VariableTree;
import com.sun.source.tree.WhileLoopTree;
import com.sun.source.tree.DoWhileLoopTree;
import com.sun.source.util.JavacTask;
import com.sun.source.util.SourcePositions;
import com.sun.source.util.TreePathScanner;
import com.sun.source.util.Trees;
import java.io.File;
import java.io.IOException;
import java.nio.charset.StandardCharsets;
import java.nio.file.Files;
import java.nio.file.Path;
import java.util.ArrayDeque;
import java.util.Deque;
import java.util.HashMap;
import java.util.HashSet;
import java.util.List;
import java.util.Map;
import java.util.Set;
import java.util.TreeMap;
import java.util.TreeSet;
import javax.lang.model.element.Element;
import javax.lang.model.element.ElementKind;
import javax.lang.model.element.ExecutableElement;
import javax.lang.model.element.Modifier;
import javax.lang.model.type.TypeKind;
import javax.tools.JavaCompiler;
import javax.tools.StandardJavaFileManager;
import javax.tools.ToolProvider;

/** The rules of LANGUAGE.md, as far as they can be seen from the source. */
public final class LanguageTest {
    private static final File SOURCE = new File("src/main/java/TornLeaves.java");
    private static final Set<String> LIBRARY = Set.of("java.lang.Math.min", "java.lang.Math.max", "java.lang.Math.abs",
            "java.lang.Integer.bitCount", "java.lang.String.length", "java.lang.String.charAt");
    private static final Set<String> EXCEPTIONS = Set.of("NoSuchElementException", "IllegalArgumentException");

    public static void main(String[] args) throws IOException {
        JavaCompiler compiler = ToolProvider.getSystemJavaCompiler();
        StandardJavaFileManager files = compiler.getStandardFileManager(null, null, StandardCharsets.UTF_8);
        JavacTask task = (JavacTask) compiler.getTask(null, files, null, List.of("-proc:none"), null,
                files.getJavaFileObjects(SOURCE));
        CompilationUnitTree unit = task.parse().iterator().next();
        task.analyze();
        Rules rules = new Rules(unit, Trees.instance(task));
        rules.scan(unit, null);
        rules.finish();
        for (byte b : Files.readAllBytes(Path.of(SOURCE.getPath()))) {
            Run.isTrue("the source holds signs 1 to 126 alone: " + b, b > 0 && b < 127);
        }
        Run.end("LanguageTest");
    }

    private static final class Rules extends TreePathScanner<Void, Void> {
        private final CompilationUnitTree unit;
        private final Trees trees;
        private final Map<String, Set<String>> calls = new TreeMap<>();
        private final Set<String> face = new TreeSet<>();
        private final Map<String, String> hidden = new TreeMap<>();
        private final Deque<String> within = new ArrayDeque<>();
        private int classes;

        Rules(CompilationUnitTree unit, Trees trees) {
            this.unit = unit;
            this.trees = trees;
        }

        private void never(String what, Tree tree) {
            Run.isTrue(what + " at line " + lineOf(tree), false);
        }

        private long lineOf(Tree tree) {
            return unit.getLineMap().getLineNumber(trees.getSourcePositions().getStartPosition(unit, tree));
        }

        @Override
        public Void visitImport(ImportTree tree, Void v) {
            Run.isTrue("one import", tree.getQualifiedIdentifier().toString().equals("java.util.NoSuchElementException"));
            return super.visitImport(tree, v);
        }

        @Override
        public Void visitClass(ClassTree tree, Void v) {
            classes++;
            int fields = 0;
            for (Tree member : tree.getMembers()) {
                if (member instanceof VariableTree field && !field.getModifiers().getFlags().contains(Modifier.STATIC)) {
                    fields++;
                }
            }
            Run.isTrue(tree.getSimpleName() + " has " + fields + " fields", fields <= 20);
            Set<Modifier> flags = tree.getModifiers().getFlags();
            Run.isTrue(tree.getSimpleName() + " is static or the class", flags.contains(Modifier.STATIC) || classes == 1);
            return super.visitClass(tree, v);
        }

        @Override
        public Void visitVariable(VariableTree tree, Void v) {
            Set<Modifier> flags = tree.getModifiers().getFlags();
            if (flags.contains(Modifier.STATIC)) {
                Run.isTrue(tree.getName() + " is a constant", flags.contains(Modifier.FINAL)
                        && Set.of("int", "long", "boolean", "char", "String").contains(tree.getType().toString()));
            }
            return super.visitVariable(tree, v);
        }

        @Override
        public Void visitMethod(MethodTree tree, Void v) {
            ExecutableElement method = (ExecutableElement) trees.getElement(getCurrentPath());
            SourcePositions places = trees.getSourcePositions();
            long from = unit.getLineMap().getLineNumber(places.getStartPosition(unit, tree));
            long to = unit.getLineMap().getLineNumber(places.getEndPosition(unit, tree));
            Run.isTrue(tree.getName() + " has " + (to - from + 1) + " lines", to - from < 60);
            Run.isTrue(tree.getName() + " takes at most seven", tree.getParameters().size() <= 7);
            Run.isTrue(tree.getName() + " is not native or synchronized",
                    !tree.getModifiers().getFlags().contains(Modifier.SYNCHRONIZED));
            boolean inClass = method.getEnclosingElement().getSimpleName().contentEquals("TornLeaves");
            if (method.getModifiers().contains(Modifier.PUBLIC)) {
                Run.isTrue(tree.getName() + " is public in the class alone", inClass);
                face.add(tree.getName().toString());
            } else if (method.getKind() != ElementKind.CONSTRUCTOR) {
                Run.isTrue(tree.getName() + " is private", !inClass || method.getModifiers().contains(Modifier.PRIVATE));
                hidden.put(nameOf(method), tree.getName().toString());
            }
            within.push(nameOf(method));
            super.visitMethod(tree, v);
            within.pop();
            return null;
        }

        private static String nameOf(ExecutableElement method) {
            return method.getEnclosingElement() + "." + method;
        }

        @Override
        public Void visitMethodInvocation(MethodInvocationTree tree, Void v) {
            Element called = trees.getElement(getCurrentPath());
            String owner = called.getEnclosingElement().toString();
            if (owner.startsWith("TornLeaves")) {
                note(nameOf((ExecutableElement) called));
            } else if (called.getKind() != ElementKind.CONSTRUCTOR) {
                String name = owner + "." + called.getSimpleName();
                Run.isTrue(name + " is in the list", LIBRARY.contains(name));
            }
            return super.visitMethodInvocation(tree, v);
        }

        private void note(String called) {
            if (!within.isEmpty()) {
                Run.isTrue(called + " doesn't call itself but through another", !called.equals(within.peek()));
                calls.computeIfAbsent(within.peek(), name -> new HashSet<>()).add(called);
            }
        }

        @Override
        public Void visitNewClass(NewClassTree tree, Void v) {
            Element maker = trees.getElement(getCurrentPath());
            boolean own = maker.getEnclosingElement().toString().startsWith("TornLeaves");
            boolean thrown = getCurrentPath().getParentPath().getLeaf() instanceof ThrowTree;
            boolean inCall = !within.isEmpty() && !within.peek().contains(".Shelf.Shelf(")
                    && !within.peek().contains("ShelfReader.ShelfReader(");
            Run.isTrue("an object is made in a call at line " + lineOf(tree), thrown || !inCall && own);
            return super.visitNewClass(tree, v);
        }

        @Override
        public Void visitNewArray(NewArrayTree tree, Void v) {
            Run.isTrue("a row is made in a call at line " + lineOf(tree), within.isEmpty());
            return super.visitNewArray(tree, v);
        }

        @Override
        public Void visitThrow(ThrowTree tree, Void v) {
            NewClassTree made = (NewClassTree) tree.getExpression();
            Run.isTrue("thrown is one of the document's", EXCEPTIONS.contains(made.getIdentifier().toString()));
            Run.isTrue("thrown with a written text", made.getArguments().stream().allMatch(LiteralTree.class::isInstance));
            return super.visitThrow(tree, v);
        }

        @Override
        public Void visitBinary(BinaryTree tree, Void v) {
            if (tree.getKind() == Tree.Kind.PLUS) {
                TypeKind kind = trees.getTypeMirror(getCurrentPath()).getKind();
                Run.isTrue("no texts are joined by + at line " + lineOf(tree), kind.isPrimitive());
            }
            return super.visitBinary(tree, v);
        }

        @Override
        public Void visitTry(TryTree tree, Void v) {
            never("a try", tree);
            return super.visitTry(tree, v);
        }

        @Override
        public Void visitCatch(CatchTree tree, Void v) {
            never("a catch", tree);
            return super.visitCatch(tree, v);
        }

        @Override
        public Void visitLambdaExpression(LambdaExpressionTree tree, Void v) {
            never("a lambda", tree);
            return super.visitLambdaExpression(tree, v);
        }

        @Override
        public Void visitMemberReference(MemberReferenceTree tree, Void v) {
            never("a method reference", tree);
            return super.visitMemberReference(tree, v);
        }

        @Override
        public Void visitSynchronized(SynchronizedTree tree, Void v) {
            never("synchronized", tree);
            return super.visitSynchronized(tree, v);
        }

        @Override
        public Void visitAssert(AssertTree tree, Void v) {
            never("assert", tree);
            return super.visitAssert(tree, v);
        }

        @Override
        public Void visitInstanceOf(InstanceOfTree tree, Void v) {
            never("instanceof", tree);
            return super.visitInstanceOf(tree, v);
        }

        // Loops here are counted ones, so that each end can be seen from its own lines.
        @Override
        public Void visitWhileLoop(WhileLoopTree tree, Void v) {
            never("a while", tree);
            return super.visitWhileLoop(tree, v);
        }

        @Override
        public Void visitDoWhileLoop(DoWhileLoopTree tree, Void v) {
            never("a do", tree);
            return super.visitDoWhileLoop(tree, v);
        }

        // An index is a counter or a number of its own, never worked out in the brackets but by a tested difference.
        @Override
        public Void visitArrayAccess(ArrayAccessTree tree, Void v) {
            String index = tree.getIndex().toString();
            Run.isTrue("the index at line " + lineOf(tree) + " is plain: " + index,
                    index.matches("[a-zA-Z]+|0|i - up|i - t"));
            return super.visitArrayAccess(tree, v);
        }

        void finish() {
            Run.isTrue("there are " + classes + " classes", classes <= 12);
            for (Map.Entry<String, String> method : hidden.entrySet()) {
                Run.isTrue(method.getKey() + " bears no public name", !face.contains(method.getValue()));
            }
            Map<String, Integer> depths = new HashMap<>();
            for (String method : List.copyOf(calls.keySet())) {
                int depth = depthOf(method, depths);
                Run.isTrue(method + " goes " + depth + " deep", depth <= 7);
            }
        }

        /** How many calls stand open at most; methods that call one another count as one. */
        private int depthOf(String method, Map<String, Integer> depths) {
            Integer known = depths.get(method);
            if (known != null) {
                return known;
            }
            Set<String> ring = ringOf(method);
            int deepest = 0;
            for (String one : ring) {
                for (String called : calls.getOrDefault(one, Set.of())) {
                    deepest = ring.contains(called) ? deepest : Math.max(deepest, depthOf(called, depths));
                }
            }
            depths.put(method, deepest + 1);
            return deepest + 1;
        }

        private Set<String> ringOf(String method) {
            Set<String> ring = new HashSet<>(Set.of(method));
            for (String other : reachedFrom(method)) {
                if (reachedFrom(other).contains(method)) {
                    ring.add(other);
                }
            }
            return ring;
        }

        private Set<String> reachedFrom(String method) {
            Set<String> reached = new HashSet<>();
            Deque<String> open = new ArrayDeque<>(calls.getOrDefault(method, Set.of()));
            while (!open.isEmpty()) {
                String next = open.pop();
                if (reached.add(next)) {
                    open.addAll(calls.getOrDefault(next, Set.of()));
                }
            }
            return reached;
        }
    }
}
