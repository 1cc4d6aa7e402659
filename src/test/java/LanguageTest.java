import com.sun.source.tree.AssertTree;
import com.sun.source.tree.ClassTree;
import com.sun.source.tree.CompilationUnitTree;
import com.sun.source.tree.ImportTree;
import com.sun.source.tree.LambdaExpressionTree;
import com.sun.source.tree.MemberReferenceTree;
import com.sun.source.tree.MemberSelectTree;
import com.sun.source.tree.MethodInvocationTree;
import com.sun.source.tree.MethodTree;
import com.sun.source.tree.NewClassTree;
import com.sun.source.tree.SynchronizedTree;
import com.sun.source.tree.ThrowTree;
import com.sun.source.tree.Tree;
import com.sun.source.tree.TryTree;
import com.sun.source.tree.TypeCastTree;
import com.sun.source.tree.VariableTree;
import com.sun.source.tree.WhileLoopTree;
import com.sun.source.util.JavacTask;
import com.sun.source.util.SourcePositions;
import com.sun.source.util.TreeScanner;
import com.sun.source.util.Trees;
import java.io.IOException;
import java.nio.file.Files;
import java.nio.file.Path;
import java.util.ArrayDeque;
import java.util.Deque;
import java.util.HashSet;
import java.util.List;
import java.util.Map;
import java.util.Set;
import java.util.TreeMap;
import java.util.TreeSet;
import javax.lang.model.element.Modifier;
import javax.tools.JavaCompiler;
import javax.tools.StandardJavaFileManager;
import javax.tools.ToolProvider;

/** The rules of ../shared/LANGUAGE.md that can be read off the source, and the document's face. */
public final class LanguageTest {
    private static final Path SOURCE = Path.of("src/main/java/PuppetTheatre.java");
    private static final Path DOCUMENT = Path.of("../shared/DOC.md");
    private static final Set<String> LIBRARY = Set.of("Integer.bitCount", "Math.min", "Math.max", "System.arraycopy");
    private static final Set<String> THROWN =
        Set.of("IllegalStateException", "IllegalArgumentException", "IndexOutOfBoundsException");

    private static int wrong;

    public static void main(String[] args) throws IOException {
        JavaCompiler compiler = ToolProvider.getSystemJavaCompiler();
        try (StandardJavaFileManager files = compiler.getStandardFileManager(null, null, null)) {
            JavacTask task = (JavacTask) compiler.getTask(null, files, null, List.of("-proc:none"), null,
                    files.getJavaFileObjects(SOURCE));
            for (CompilationUnitTree unit : task.parse()) {
                Rules rules = new Rules(unit, Trees.instance(task).getSourcePositions());
                rules.scan(unit, null);
                rules.judgeCalls();
                rules.judgeFace();
            }
        }
        System.out.println(wrong == 0 ? "the rules are kept" : wrong + " rules are not kept");
        if (wrong != 0) {
            System.exit(1);
        }
    }

    private static void due(boolean isKept, String text) {
        if (!isKept) {
            wrong++;
            System.out.println(text);
        }
    }

    private static final class Rules extends TreeScanner<Void, Void> {
        private final CompilationUnitTree unit;
        private final SourcePositions positions;
        private final Deque<ClassTree> classes = new ArrayDeque<>();
        private final Map<String, Set<String>> calls = new TreeMap<>();
        private final Set<String> face = new TreeSet<>();
        private int classCount;
        private MethodTree method;

        Rules(CompilationUnitTree unit, SourcePositions positions) {
            this.unit = unit;
            this.positions = positions;
        }

        @Override
        public Void visitClass(ClassTree tree, Void nothing) {
            classCount++;
            due(classCount <= 12, "12 classes at most");
            Set<Modifier> flags = tree.getModifiers().getFlags();
            due(classes.isEmpty() || flags.contains(Modifier.PRIVATE) && flags.contains(Modifier.STATIC),
                    tree.getSimpleName() + " is private and static");
            int fields = 0;
            for (Tree member : tree.getMembers()) {
                if (member instanceof VariableTree field) {
                    boolean isStatic = field.getModifiers().getFlags().contains(Modifier.STATIC);
                    fields += isStatic ? 0 : 1;
                    due(!isStatic || field.getModifiers().getFlags().contains(Modifier.FINAL),
                            field.getName() + " is static, so it is final");
                    due(!classes.isEmpty() || field.getModifiers().getFlags().contains(Modifier.PRIVATE),
                            field.getName() + " is private");
                }
            }
            due(fields <= 20, tree.getSimpleName() + " has 20 fields at most");
            classes.push(tree);
            super.visitClass(tree, nothing);
            classes.pop();
            return null;
        }

        @Override
        public Void visitMethod(MethodTree tree, Void nothing) {
            boolean isMade = tree.getName().contentEquals("<init>");
            String name = isMade ? "new " + classes.peek().getSimpleName() : tree.getName().toString();
            due(calls.put(name, new HashSet<>()) == null, name + " is the only method of its name");
            due(tree.getParameters().size() <= 7, name + " has 7 parameters at most");
            long from = positions.getStartPosition(unit, tree);
            long to = positions.getEndPosition(unit, tree);
            due(from < 0 || unit.getLineMap().getLineNumber(to) - unit.getLineMap().getLineNumber(from) < 60,
                    name + " has 60 lines at most");
            boolean isPublic = tree.getModifiers().getFlags().contains(Modifier.PUBLIC);
            due(isPublic || classes.size() > 1 || tree.getModifiers().getFlags().contains(Modifier.PRIVATE),
                    name + " is private");
            if (isPublic) {
                face.add(signature(tree));
            }
            method = tree;
            super.visitMethod(tree, nothing);
            method = null;
            return null;
        }

        private String signature(MethodTree tree) {
            String type = tree.getReturnType() == null ? "PuppetTheatre" : tree.getReturnType() + " " + tree.getName();
            String text = "public " + type + "(" + tree.getParameters() + ")";
            return text + (tree.getThrows().isEmpty() ? "" : " throws " + tree.getThrows());
        }

        private void call(String called) {
            if (method != null) {
                boolean isMade = method.getName().contentEquals("<init>");
                String name = isMade ? "new " + classes.peek().getSimpleName() : method.getName().toString();
                calls.get(name).add(called);
            }
        }

        @Override
        public Void visitMethodInvocation(MethodInvocationTree tree, Void nothing) {
            if (tree.getMethodSelect() instanceof MemberSelectTree select) {
                String whole = select.toString();
                if (Character.isUpperCase(whole.charAt(0))) {
                    due(LIBRARY.contains(whole), whole + " is none of the library");
                }
                call(select.getIdentifier().toString());
            } else {
                call(tree.getMethodSelect().toString());
            }
            return super.visitMethodInvocation(tree, nothing);
        }

        @Override
        public Void visitNewClass(NewClassTree tree, Void nothing) {
            call("new " + tree.getIdentifier());
            return super.visitNewClass(tree, nothing);
        }

        @Override
        public Void visitThrow(ThrowTree tree, Void nothing) {
            boolean isNew = tree.getExpression() instanceof NewClassTree made
                    && THROWN.contains(made.getIdentifier().toString());
            due(isNew && classes.size() == 1, "throw new of the document's exceptions, in the face: " + tree);
            due(!method.getName().contentEquals("<init>"), "no throw in a constructor");
            return super.visitThrow(tree, nothing);
        }

        private Void refuse(Tree tree) {
            due(false, "not of the language: " + tree);
            return null;
        }

        @Override
        public Void visitImport(ImportTree tree, Void nothing) {
            return refuse(tree);
        }

        @Override
        public Void visitTry(TryTree tree, Void nothing) {
            return refuse(tree);
        }

        @Override
        public Void visitLambdaExpression(LambdaExpressionTree tree, Void nothing) {
            return refuse(tree);
        }

        @Override
        public Void visitMemberReference(MemberReferenceTree tree, Void nothing) {
            return refuse(tree);
        }

        @Override
        public Void visitSynchronized(SynchronizedTree tree, Void nothing) {
            return refuse(tree);
        }

        @Override
        public Void visitAssert(AssertTree tree, Void nothing) {
            return refuse(tree);
        }

        /** The loops are for loops, whose ends stand in their heads. */
        @Override
        public Void visitWhileLoop(WhileLoopTree tree, Void nothing) {
            return refuse(tree);
        }

        @Override
        public Void visitTypeCast(TypeCastTree tree, Void nothing) {
            due(tree.getType().toString().equals("double"), "a cast: " + tree);
            return super.visitTypeCast(tree, nothing);
        }

        void judgeCalls() {
            for (String name : calls.keySet()) {
                int depth = depth(name, new ArrayDeque<>());
                due(depth <= 8, name + " calls " + depth + " deep");
            }
        }

        /** No method calls itself, also not by way of others. */
        private int depth(String name, Deque<String> open) {
            if (!calls.containsKey(name)) {
                return 0;
            }
            if (open.contains(name)) {
                due(false, name + " calls itself");
                return 0;
            }
            open.push(name);
            int deepest = 0;
            for (String called : calls.get(name)) {
                deepest = Math.max(deepest, depth(called, open));
            }
            open.pop();
            return deepest + 1;
        }

        void judgeFace() throws IOException {
            String text = Files.readString(DOCUMENT);
            String block = text.substring(text.indexOf("```java"), text.indexOf("```", text.indexOf("```java") + 3));
            Set<String> want = new TreeSet<>();
            for (String line : block.split("\n")) {
                if (line.startsWith("    public ")) {
                    want.add(line.strip().replace(";", "").replace(", ", ","));
                }
            }
            Set<String> got = new TreeSet<>();
            for (String each : face) {
                got.add(each.replace(", ", ","));
            }
            due(got.equals(want), "the face is " + got + ", due is " + want);
        }
    }
}
