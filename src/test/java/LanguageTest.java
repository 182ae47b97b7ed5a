import com.sun.source.tree.ArrayTypeTree;
import com.sun.source.tree.AssertTree;
import com.sun.source.tree.BlockTree;
import com.sun.source.tree.CatchTree;
import com.sun.source.tree.ClassTree;
import com.sun.source.tree.CompilationUnitTree;
import com.sun.source.tree.ForLoopTree;
import com.sun.source.tree.IdentifierTree;
import com.sun.source.tree.LambdaExpressionTree;
import com.sun.source.tree.MemberReferenceTree;
import com.sun.source.tree.MemberSelectTree;
import com.sun.source.tree.MethodInvocationTree;
import com.sun.source.tree.MethodTree;
import com.sun.source.tree.NewArrayTree;
import com.sun.source.tree.NewClassTree;
import com.sun.source.tree.SynchronizedTree;
import com.sun.source.tree.ThrowTree;
import com.sun.source.tree.Tree;
import com.sun.source.tree.TryTree;
import com.sun.source.tree.TypeCastTree;
import com.sun.source.tree.VariableTree;
import com.sun.source.tree.WhileLoopTree;
import com.sun.source.util.JavacTask;
import com.sun.source.util.SourcePositions;
import com.sun.source.util.TreePathScanner;
import com.sun.source.util.Trees;
import java.io.IOException;
import java.io.StringWriter;
import java.net.URI;
import java.nio.file.Files;
import java.nio.file.Path;
import java.util.ArrayList;
import java.util.LinkedHashMap;
import java.util.LinkedHashSet;
import java.util.List;
import java.util.Map;
import java.util.Set;
import javax.lang.model.element.Modifier;
import javax.tools.JavaFileObject;
import javax.tools.SimpleJavaFileObject;
import javax.tools.ToolProvider;

/** The rules of LANGUAGE.md that can be seen in the tree of the program. Numbers in front of a complaint are those of the rules. */
public final class LanguageTest {
    private static final Due due = new Due("LanguageTest");
    private static final Set<String> LIBRARY = Set.of("Arrays.fill", "System.arraycopy", "Math.max");
    private static final int MOST_LINES = 60, MOST_PARAMETERS = 7, MOST_DEEP = 8, MOST_CLASSES = 12, MOST_FIELDS = 20;

    public static void main(String[] args) throws IOException {
        for (String complaint : complaints(Files.readString(Path.of("src/main/java/AxleKeeper.java")))) due.so(complaint, false);
        seen();
        due.end();
    }

    /** A rule's look is worth something if it sees what breaks the rule. */
    private static void seen() {
        sees("", "int a() { return 1; }");
        sees("2 ", "Runnable a() { return () -> { }; }");
        sees("2 ", "Runnable a() { return this::b; } void b() { }");
        sees("2 ", "void a() { class B { } }");
        sees("2 ", "Object a() { return new Object() { }; }");
        sees("2 ", "class B { }");
        sees("3 ", "private final int[][][] a = new int[1][1][1];");
        sees("4 ", "int a() { return Math.addExact(1, 2); }");
        sees("4 ", "long a() { return System.nanoTime(); }");
        sees("5 ", "private static int a;");
        sees("5 ", "static { }");
        sees("6 ", "void a() { throw new RuntimeException(); }");
        sees("6 ", "void a() { try { } finally { } }");
        sees("6 ", "void a() { assert true; }");
        sees("6 ", "void a() { synchronized (this) { } }");
        sees("7 ", "int a(long b) { return (int) b; }");
        sees("8 ", "void a() { b(); } void b() { a(); }");
        sees("9 ", "void a() { for (;;) { } }");
        sees("9 ", "void a() { while (true) { } }");
        sees("11 ", "void a(int b, int c, int d, int e, int f, int g, int h, int i) { }");
        sees("11 ", "void a() {" + "\n".repeat(70) + "}");
        sees("11 ", "void a() {b();} void b() {c();} void c() {d();} void d() {e();} void e() {f();} void f() {g();} void g() {h();} void h() {i();} void i() {}");
        sees("11 ", "static class B { }".repeat(12));
        sees("11 ", "int a;".repeat(21));
        sees("12 ", "int a() { return new int[3].length; }");
        sees("12 ", "Object a() { return new Object(); }");
    }

    private static void sees(String rule, String inside) {
        List<String> found = complaints("public final class A {\n" + inside + "\n}\n");
        boolean right = rule.isEmpty() ? found.isEmpty() : found.stream().anyMatch(each -> each.startsWith(rule));
        due.so("rule " + rule + "is looked at: " + inside.replace("\n", " ").replaceAll(" +", " ") + ": " + found, right);
    }

    private static List<String> complaints(String text) {
        JavaFileObject file = new SimpleJavaFileObject(URI.create("string:///AxleKeeper.java"), JavaFileObject.Kind.SOURCE) {
            @Override
            public CharSequence getCharContent(boolean ignoreEncodingErrors) {
                return text;
            }
        };
        JavacTask task = (JavacTask) ToolProvider.getSystemJavaCompiler().getTask(new StringWriter(), null, null, List.of("-proc:none"), null, List.of(file));
        try {
            CompilationUnitTree unit = task.parse().iterator().next();
            Walk walk = new Walk(unit, Trees.instance(task).getSourcePositions());
            walk.scan(unit, null);
            walk.callsThatGoDeep();
            if (walk.classes > MOST_CLASSES) walk.complain("11 too many classes");
            return walk.complaints;
        } catch (IOException thrown) {
            return List.of(thrown.toString());
        }
    }

    private static final class Walk extends TreePathScanner<Void, Void> {
        private final CompilationUnitTree unit;
        private final SourcePositions places;
        private final Map<String, Set<String>> calls = new LinkedHashMap<>();
        private String method = "";
        private int classes;
        final List<String> complaints = new ArrayList<>();

        Walk(CompilationUnitTree unit, SourcePositions places) {
            this.unit = unit;
            this.places = places;
        }

        void complain(String what) {
            complaints.add(what);
        }

        private void complain(String what, Tree at) {
            complain(what + " in line " + unit.getLineMap().getLineNumber(places.getStartPosition(unit, at)));
        }

        private Tree above() {
            return getCurrentPath().getParentPath().getLeaf();
        }

        @Override
        public Void visitClass(ClassTree tree, Void none) {
            classes++;
            boolean outer = above() instanceof CompilationUnitTree;
            boolean inside = above() instanceof ClassTree;
            if (!outer && !inside) complain("2 a local or nameless class", tree);
            if (inside && !tree.getModifiers().getFlags().contains(Modifier.STATIC)) complain("2 a class that is not static", tree);
            int fields = 0;
            for (Tree each : tree.getMembers()) {
                if (each instanceof BlockTree) complain("5 an initialiser block", each);
                if (each instanceof VariableTree field && fieldOfObject(field)) fields++;
            }
            if (fields > MOST_FIELDS) complain("11 too many fields", tree);
            return super.visitClass(tree, none);
        }

        private boolean fieldOfObject(VariableTree field) {
            Set<Modifier> flags = field.getModifiers().getFlags();
            if (flags.contains(Modifier.STATIC) && !flags.contains(Modifier.FINAL)) complain("5 a static field that is not final", field);
            return !flags.contains(Modifier.STATIC);
        }

        @Override
        public Void visitMethod(MethodTree tree, Void none) {
            if (tree.getParameters().size() > MOST_PARAMETERS) complain("11 too many parameters", tree);
            long first = unit.getLineMap().getLineNumber(places.getStartPosition(unit, tree));
            long last = unit.getLineMap().getLineNumber(Math.max(0, places.getEndPosition(unit, tree)));
            if (last - first >= MOST_LINES) complain("11 a long method", tree);
            String around = method;
            method = tree.getName().toString();
            calls.putIfAbsent(method, new LinkedHashSet<>());
            super.visitMethod(tree, none);
            method = around;
            return null;
        }

        /** Methods of one name are taken for one: that can only find more. */
        @Override
        public Void visitMethodInvocation(MethodInvocationTree tree, Void none) {
            if (tree.getMethodSelect() instanceof IdentifierTree name) note(name.getName().toString());
            if (tree.getMethodSelect() instanceof MemberSelectTree select) {
                String of = select.getExpression().toString();
                if (Character.isUpperCase(of.charAt(0))) library(of + "." + select.getIdentifier(), tree);
                else note(select.getIdentifier().toString());
            }
            return super.visitMethodInvocation(tree, none);
        }

        private void note(String called) {
            if (!method.isEmpty()) calls.get(method).add(called);
        }

        private void library(String called, Tree at) {
            if (!LIBRARY.contains(called)) complain("4 " + called + " is not among what the program uses of the library", at);
        }

        void callsThatGoDeep() {
            for (String each : calls.keySet()) deep(each, new ArrayList<>());
        }

        private void deep(String name, List<String> open) {
            if (!calls.containsKey(name) || name.equals("<init>")) return;
            if (open.contains(name)) {
                complain("8 recursion of " + name);
                return;
            }
            open.add(name);
            if (open.size() > MOST_DEEP) complain("11 calls too deep: " + open);
            else for (String each : calls.get(name)) deep(each, open);
            open.remove(open.size() - 1);
        }

        @Override
        public Void visitLambdaExpression(LambdaExpressionTree tree, Void none) {
            complain("2 a lambda", tree);
            return super.visitLambdaExpression(tree, none);
        }

        @Override
        public Void visitMemberReference(MemberReferenceTree tree, Void none) {
            complain("2 a method reference", tree);
            return super.visitMemberReference(tree, none);
        }

        @Override
        public Void visitArrayType(ArrayTypeTree tree, Void none) {
            if (tree.getType() instanceof ArrayTypeTree inner && inner.getType() instanceof ArrayTypeTree) complain("3 three dimensions", tree);
            return super.visitArrayType(tree, none);
        }

        @Override
        public Void visitThrow(ThrowTree tree, Void none) {
            complain("6 throw", tree);
            return super.visitThrow(tree, none);
        }

        @Override
        public Void visitTry(TryTree tree, Void none) {
            complain("6 try", tree);
            return super.visitTry(tree, none);
        }

        @Override
        public Void visitCatch(CatchTree tree, Void none) {
            complain("6 catch", tree);
            return super.visitCatch(tree, none);
        }

        @Override
        public Void visitAssert(AssertTree tree, Void none) {
            complain("6 assert", tree);
            return super.visitAssert(tree, none);
        }

        @Override
        public Void visitSynchronized(SynchronizedTree tree, Void none) {
            complain("6 synchronized", tree);
            return super.visitSynchronized(tree, none);
        }

        /** The program needs no cast; one that comes in wants a look at what makes it safe. */
        @Override
        public Void visitTypeCast(TypeCastTree tree, Void none) {
            complain("7 a cast", tree);
            return super.visitTypeCast(tree, none);
        }

        @Override
        public Void visitForLoop(ForLoopTree tree, Void none) {
            if (tree.getCondition() == null || tree.getUpdate().isEmpty()) complain("9 a loop without an end", tree);
            return super.visitForLoop(tree, none);
        }

        @Override
        public Void visitWhileLoop(WhileLoopTree tree, Void none) {
            if (!tree.getCondition().toString().contains("<")) complain("9 a loop without a bound", tree);
            return super.visitWhileLoop(tree, none);
        }

        @Override
        public Void visitNewClass(NewClassTree tree, Void none) {
            if (!method.isEmpty() && !method.equals("<init>")) complain("12 a call makes an object", tree);
            return super.visitNewClass(tree, none);
        }

        @Override
        public Void visitNewArray(NewArrayTree tree, Void none) {
            if (!method.isEmpty() && !method.equals("<init>")) complain("12 a call makes an array", tree);
            return super.visitNewArray(tree, none);
        }
    }
}
