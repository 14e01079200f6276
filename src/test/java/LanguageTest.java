import com.sun.source.tree.*;
import com.sun.source.util.JavacTask;
import com.sun.source.util.TreePath;
import com.sun.source.util.TreePathScanner;
import com.sun.source.util.Trees;
import java.net.URI;
import java.nio.file.Files;
import java.nio.file.Path;
import java.util.ArrayList;
import java.util.LinkedHashMap;
import java.util.LinkedHashSet;
import java.util.List;
import java.util.Map;
import java.util.Set;
import java.util.TreeSet;
import javax.lang.model.element.Element;
import javax.lang.model.element.ElementKind;
import javax.lang.model.element.Modifier;
import javax.lang.model.element.TypeElement;
import javax.lang.model.type.ArrayType;
import javax.lang.model.type.DeclaredType;
import javax.lang.model.type.TypeMirror;
import javax.tools.JavaCompiler;
import javax.tools.JavaFileObject;
import javax.tools.SimpleJavaFileObject;
import javax.tools.ToolProvider;

/** The source keeps to those rules of LANGUAGE.md that a compiler's tree can be asked of; each is tried on a source that breaks it. */
public final class LanguageTest {
    private static final Set<String> LIBRARY = new TreeSet<>(List.of("Math.max", "Math.min", "Math.abs", "Math.floorMod",
            "Math.floorDiv", "Integer.bitCount", "Integer.compare", "Integer.max", "Integer.min", "Long.compare", "Long.max",
            "Long.min", "System.arraycopy", "Arrays.fill", "Arrays.copyOf", "Arrays.copyOfRange", "String.length",
            "String.charAt", "String.isEmpty", "String.equals", "String.substring", "String.indexOf", "String.toCharArray",
            "StringBuilder.append", "StringBuilder.charAt", "StringBuilder.length", "StringBuilder.toString"));
    private static final int LINES = 60;
    private static final int DEPTH = 8;

    private final TreeSet<String> told = new TreeSet<>();
    private final Map<Element, Set<Element>> calls = new LinkedHashMap<>();

    /** What breaks a rule in a source, each as "rule: what". */
    static TreeSet<String> look(String source) throws Exception {
        JavaCompiler compiler = ToolProvider.getSystemJavaCompiler();
        JavaFileObject file = new SimpleJavaFileObject(URI.create("string:///RookHouse.java"), JavaFileObject.Kind.SOURCE) {
            @Override
            public CharSequence getCharContent(boolean ignore) {
                return source;
            }
        };
        LanguageTest test = new LanguageTest();
        JavacTask task = (JavacTask) compiler.getTask(null, null, d -> test.tellCompiler(d.getKind().toString(), d.toString()), null, null, List.of(file));
        List<CompilationUnitTree> units = new ArrayList<>();
        task.parse().forEach(units::add);
        task.analyze();
        for (CompilationUnitTree unit : units) {
            test.new Scan(Trees.instance(task), unit).scan(unit, null);
        }
        test.lookAtCalls();
        return test.told;
    }

    private void tellCompiler(String kind, String what) {
        if (kind.equals("ERROR")) {
            told.add("0: does not compile, " + what);
        }
    }

    private void tell(int rule, Object what) {
        String text = what.toString().replaceAll("\\s+", " ").trim();
        told.add(rule + ": " + (text.length() > 60 ? text.substring(0, 60) : text));
    }

    private final class Scan extends TreePathScanner<Void, Void> {
        final Trees trees;
        final CompilationUnitTree unit;
        Element method;
        int classes;

        Scan(Trees trees, CompilationUnitTree unit) {
            this.trees = trees;
            this.unit = unit;
        }

        private Element element(Tree tree) {
            return trees.getElement(new TreePath(getCurrentPath(), tree));
        }

        private TypeMirror type(Tree tree) {
            return trees.getTypeMirror(new TreePath(getCurrentPath(), tree));
        }

        private boolean isOwn(Element element) {
            Element top = element;
            while (top.getEnclosingElement() != null && top.getEnclosingElement().getKind() != ElementKind.PACKAGE) {
                top = top.getEnclosingElement();
            }
            return top.getSimpleName().contentEquals("RookHouse");
        }

        @Override
        public Void visitImport(ImportTree tree, Void none) {
            if (!tree.getQualifiedIdentifier().toString().matches("java\\.util\\.(Arrays|ArrayList|List|Iterator)")) {
                tell(4, tree);
            }
            return super.visitImport(tree, none);
        }

        @Override
        public Void visitClass(ClassTree tree, Void none) {
            classes++;
            if (classes > 12) {
                tell(11, "more than twelve classes: " + tree.getSimpleName());
            }
            Tree above = getCurrentPath().getParentPath().getLeaf();
            boolean isTop = above instanceof CompilationUnitTree;
            if (!isTop && !(above instanceof ClassTree)) {
                tell(2, "a class within a method: " + tree.getSimpleName());
            } else if (!isTop && !tree.getModifiers().getFlags().contains(Modifier.STATIC)) {
                tell(2, "not static: " + tree.getSimpleName());
            }
            int fields = 0;
            for (Tree part : tree.getMembers()) {
                boolean isField = part instanceof VariableTree;
                fields += isField && !((VariableTree) part).getModifiers().getFlags().contains(Modifier.STATIC) ? 1 : 0;
            }
            if (fields > 20) {
                tell(11, fields + " fields: " + tree.getSimpleName());
            }
            return super.visitClass(tree, none);
        }

        @Override
        public Void visitBlock(BlockTree tree, Void none) {
            if (tree.isStatic()) {
                tell(5, "a static block");
            }
            return super.visitBlock(tree, none);
        }

        @Override
        public Void visitMethod(MethodTree tree, Void none) {
            if (tree.getParameters().size() > 7) {
                tell(11, "more than seven parameters: " + tree.getName());
            }
            LineMap lines = unit.getLineMap();
            long from = lines.getLineNumber(trees.getSourcePositions().getStartPosition(unit, tree));
            long to = lines.getLineNumber(trees.getSourcePositions().getEndPosition(unit, tree));
            if (to - from >= LINES) {
                tell(11, "long: " + tree.getName());
            }
            method = trees.getElement(getCurrentPath());
            calls.put(method, new LinkedHashSet<>());
            super.visitMethod(tree, none);
            method = null;
            return null;
        }

        @Override
        public Void visitVariable(VariableTree tree, Void none) {
            Element variable = trees.getElement(getCurrentPath());
            boolean isField = variable != null && variable.getKind() == ElementKind.FIELD;
            boolean isStatic = isField && variable.getModifiers().contains(Modifier.STATIC);
            TypeMirror type = type(tree.getType());
            if (type != null && !isKnown(type)) {
                tell(3, tree);
            }
            if (isStatic && !variable.getModifiers().contains(Modifier.FINAL)) {
                tell(5, tree);
            }
            if (isStatic && !type.toString().matches("(int|long|char|byte)(\\[\\])?|boolean|java.lang.String")) {
                tell(5, tree);
            }
            return super.visitVariable(tree, none);
        }

        private boolean isKnown(TypeMirror type) {
            if (type instanceof ArrayType) {
                TypeMirror inner = ((ArrayType) type).getComponentType();
                boolean isTwo = inner instanceof ArrayType;
                return isTwo ? ((ArrayType) inner).getComponentType().getKind().isPrimitive() : isKnown(inner);
            }
            if (type instanceof DeclaredType) {
                Element of = ((DeclaredType) type).asElement();
                return isOwn(of) || of.toString().matches("java\\.lang\\.(String|StringBuilder)|java\\.util\\.(List|ArrayList)");
            }
            return true;
        }

        @Override
        public Void visitMethodInvocation(MethodInvocationTree tree, Void none) {
            noteCall(element(tree.getMethodSelect()), tree);
            return super.visitMethodInvocation(tree, none);
        }

        @Override
        public Void visitNewClass(NewClassTree tree, Void none) {
            if (tree.getClassBody() != null) {
                tell(2, "a class without a name: " + tree.getIdentifier());
            }
            Element made = element(tree.getIdentifier());
            if (made != null && !isOwn(made) && !made.toString().matches("java\\.lang\\.String(Builder)?|java\\.util\\.ArrayList")) {
                tell(4, tree);
            }
            Element maker = trees.getElement(getCurrentPath());
            if (maker != null && isOwn(maker) && method != null) {
                calls.get(method).add(maker);
            }
            return super.visitNewClass(tree, none);
        }

        private void noteCall(Element called, Tree tree) {
            if (called == null || called.getSimpleName().contentEquals("<init>")) {
                return;
            }
            if (!isOwn(called)) {
                String name = ((TypeElement) called.getEnclosingElement()).getSimpleName() + "." + called.getSimpleName();
                if (!LIBRARY.contains(name)) {
                    tell(4, tree);
                }
            } else if (method != null) {
                calls.get(method).add(called);
            }
        }

        @Override
        public Void visitBinary(BinaryTree tree, Void none) {
            boolean texts = isText(tree.getLeftOperand()) || isText(tree.getRightOperand());
            if (texts && tree.getKind() == Tree.Kind.PLUS) {
                tell(10, tree);
            } else if (texts) {
                tell(6, tree);
            }
            return super.visitBinary(tree, none);
        }

        private boolean isText(Tree tree) {
            TypeMirror type = type(tree);
            return type != null && type.toString().equals("java.lang.String");
        }

        @Override
        public Void visitLiteral(LiteralTree tree, Void none) {
            if (tree.getValue() instanceof String && !((String) tree.getValue()).matches("[\\x01-\\x7f]*")) {
                tell(4, tree);
            }
            return super.visitLiteral(tree, none);
        }

        @Override
        public Void visitForLoop(ForLoopTree tree, Void none) {
            if (tree.getCondition() == null || tree.getCondition().toString().equals("true")) {
                tell(9, tree);
            }
            return super.visitForLoop(tree, none);
        }

        @Override
        public Void visitWhileLoop(WhileLoopTree tree, Void none) {
            if (tree.getCondition().toString().equals("(true)")) {
                tell(9, tree);
            }
            return super.visitWhileLoop(tree, none);
        }

        @Override
        public Void visitDoWhileLoop(DoWhileLoopTree tree, Void none) {
            if (tree.getCondition().toString().equals("(true)")) {
                tell(9, tree);
            }
            return super.visitDoWhileLoop(tree, none);
        }

        @Override
        public Void visitLambdaExpression(LambdaExpressionTree tree, Void none) {
            tell(2, tree);
            return super.visitLambdaExpression(tree, none);
        }

        @Override
        public Void visitMemberReference(MemberReferenceTree tree, Void none) {
            tell(2, tree);
            return super.visitMemberReference(tree, none);
        }

        @Override
        public Void visitThrow(ThrowTree tree, Void none) {
            tell(6, tree);
            return super.visitThrow(tree, none);
        }

        @Override
        public Void visitTry(TryTree tree, Void none) {
            tell(6, tree);
            return super.visitTry(tree, none);
        }

        @Override
        public Void visitSynchronized(SynchronizedTree tree, Void none) {
            tell(6, tree);
            return super.visitSynchronized(tree, none);
        }

        @Override
        public Void visitAssert(AssertTree tree, Void none) {
            tell(6, tree);
            return super.visitAssert(tree, none);
        }
    }

    private void lookAtCalls() {
        for (Element from : calls.keySet()) {
            if (reached(from).contains(from)) {
                boolean isPrivate = from.getModifiers().contains(Modifier.PRIVATE);
                if (!isPrivate || !from.toString().contains("int")) {
                    tell(8, "calls itself without a depth: " + from);
                }
            }
        }
        for (Element from : calls.keySet()) {
            int deep = depth(from);
            if (deep > DEPTH) {
                tell(11, deep + " calls deep: " + from);
            }
        }
    }

    private Set<Element> reached(Element from) {
        Set<Element> all = new LinkedHashSet<>(calls.getOrDefault(from, Set.of()));
        List<Element> open = new ArrayList<>(all);
        for (int i = 0; i < open.size(); i++) {
            for (Element next : calls.getOrDefault(open.get(i), Set.of())) {
                if (all.add(next)) {
                    open.add(next);
                }
            }
        }
        return all;
    }

    /** Methods that call one another count as one. */
    private int depth(Element from) {
        Set<Element> together = new LinkedHashSet<>(Set.of(from));
        for (Element other : reached(from)) {
            if (reached(other).contains(from)) {
                together.add(other);
            }
        }
        int deepest = 0;
        for (Element one : together) {
            for (Element next : calls.getOrDefault(one, Set.of())) {
                deepest = together.contains(next) ? deepest : Math.max(deepest, depth(next));
            }
        }
        return deepest + 1;
    }

    private static String source(String body) {
        int behind = body.startsWith("import ") ? body.indexOf(';') + 1 : 0;
        return body.substring(0, behind) + " public final class RookHouse { " + body.substring(behind) + " }";
    }

    private static String chain(int calls) {
        StringBuilder s = new StringBuilder();
        for (int i = 1; i < calls; i++) {
            s.append("private void c").append(i).append("() { c").append(i + 1).append("(); } ");
        }
        return s.append("private void c").append(calls).append("() { }").toString();
    }

    private static String fields(int many) {
        StringBuilder s = new StringBuilder();
        for (int i = 0; i < many; i++) {
            s.append("private int f").append(i).append("; ");
        }
        return s.toString();
    }

    /** A rule that a source breaks (0: none), and the source. */
    private static final Object[][] TRIALS = {
        {0, "private int a(int b) { return Math.max(b, 0); }"},
        {2, "private Runnable a() { return () -> { }; }"},
        {2, "private Runnable a() { return this::b; } private void b() { }"},
        {2, "private Runnable a() { return new Runnable() { public void run() { } }; }"},
        {2, "private final class A { }"},
        {2, "private void a() { class B { } }"},
        {3, "private Object a;"},
        {3, "private int[][][] a;"},
        {3, "private String[][] a;"},
        {4, "private long a() { return System.nanoTime(); }"},
        {4, "private int a(int b) { return Math.addExact(b, 1); }"},
        {4, "private static final String A = \"\u00e9\";"},
        {4, "private int a() { return new java.util.Random().nextInt(); }"},
        {4, "import java.util.HashMap; private int a;"},
        {0, "import java.util.Arrays; private void a(int[] b) { Arrays.fill(b, 0); }"},
        {5, "private static int a;"},
        {5, "private static final short A = 1;"},
        {5, "static { }"},
        {6, "private void a() { throw new IllegalArgumentException(); }"},
        {6, "private void a() { try { } finally { } }"},
        {6, "private void a() { synchronized (this) { } }"},
        {6, "private void a(int b) { assert b > 0; }"},
        {6, "private boolean a(String b, String c) { return b == c; }"},
        {8, "private void a() { a(); }"},
        {8, "public void a(int b) { a(b - 1); }"},
        {0, "private void a(int b) { if (b > 0) { a(b - 1); } }"},
        {9, "private void a() { for (;;) { } }"},
        {9, "private void a() { while (true) { } }"},
        {9, "private void a() { do { } while (true); }"},
        {10, "private String a(String b) { return b + b; }"},
        {11, "private void a(int b, int c, int d, int e, int f, int g, int h, int i) { }"},
        {0, "private void a(int b, int c, int d, int e, int f, int g, int h) { }"},
        {11, "private void a() { " + "\n".repeat(60) + " }"},
        {0, "private void a() { " + "\n".repeat(59) + " }"},
        {11, chain(9)},
        {0, chain(8)},
        {11, fields(21)},
        {0, fields(20)},
        {0, nested(11)},
        {11, nested(12)},
    };

    private static String nested(int many) {
        StringBuilder s = new StringBuilder();
        for (int i = 0; i < many; i++) {
            s.append("private static final class A").append(i).append(" { } ");
        }
        return s.toString();
    }

    public static void main(String[] args) throws Exception {
        int wrong = 0;
        for (Object[] trial : TRIALS) {
            TreeSet<String> found = look(source((String) trial[1]));
            int rule = (Integer) trial[0];
            boolean so = rule == 0 ? found.isEmpty() : found.stream().anyMatch(one -> one.startsWith(rule + ": "));
            if (!so || found.stream().anyMatch(one -> one.startsWith("0: "))) {
                wrong++;
                System.out.println("rule " + rule + " is due for " + trial[1] + ", told was " + found);
            }
        }
        for (String one : look(Files.readString(Path.of("src/main/java/RookHouse.java")))) {
            wrong++;
            System.out.println("rule " + one);
        }
        System.out.println(wrong == 0 ? "the source keeps to the rules" : wrong + " things are not as due");
        if (wrong != 0) {
            System.exit(1);
        }
    }
}
