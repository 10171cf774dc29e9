import com.sun.source.tree.BinaryTree;
import com.sun.source.tree.ClassTree;
import com.sun.source.tree.CompilationUnitTree;
import com.sun.source.tree.MethodInvocationTree;
import com.sun.source.tree.MethodTree;
import com.sun.source.tree.NewClassTree;
import com.sun.source.tree.Tree;
import com.sun.source.tree.VariableTree;
import com.sun.source.util.JavacTask;
import com.sun.source.util.TreePath;
import com.sun.source.util.TreePathScanner;
import com.sun.source.util.Trees;
import java.io.IOException;
import java.lang.reflect.Member;
import java.lang.reflect.Modifier;
import java.util.ArrayList;
import java.util.Arrays;
import java.util.EnumSet;
import java.util.HashMap;
import java.util.HashSet;
import java.util.List;
import java.util.Map;
import java.util.Set;
import java.util.TreeSet;
import javax.lang.model.element.Element;
import javax.lang.model.element.ElementKind;
import javax.lang.model.element.ExecutableElement;
import javax.tools.JavaCompiler;
import javax.tools.StandardJavaFileManager;
import javax.tools.ToolProvider;

/** What a program can see of ../shared/LANGUAGE.md, looked for in the class; and the document's face. */
final class LanguageTest {
    private static final String SOURCE = "src/main/java/OrderedTable.java";
    private static final Set<Tree.Kind> REFUSED = EnumSet.of(Tree.Kind.LAMBDA_EXPRESSION,
        Tree.Kind.MEMBER_REFERENCE, Tree.Kind.TRY, Tree.Kind.ASSERT, Tree.Kind.SYNCHRONIZED, Tree.Kind.BINDING_PATTERN,
        Tree.Kind.ANNOTATION, Tree.Kind.TYPE_CAST, Tree.Kind.INSTANCE_OF);
    private static final Set<String> LIBRARY = Set.of("Math.floorMod", "Math.max", "Math.min", "Integer.bitCount",
        "System.arraycopy", "Arrays.fill", "Object.<init>", "IllegalStateException.<init>",
        "IllegalArgumentException.<init>", "IndexOutOfBoundsException.<init>");
    private static final String[] FACE = {
        "NONE", "<init>(int)", "request(int,int,int,int)int", "again(int)void", "deliver(int)void", "lose(int)void",
        "flow(int)int", "down(int)void", "up(int)void", "suspect(int)void", "nudge(int)int", "sync(int)void",
        "fail()boolean", "install()int", "replica(int,int)int", "entry(int,int,int)int", "word(int,int)int",
        "client(int,int)int", "answer(int)int", "about(int)int", "message(int,int)int", "broken()int"};

    private final Map<String, Set<String>> calls = new HashMap<>();
    private final Set<String> open = new HashSet<>();
    private int classes;

    public static void main(String[] args) throws IOException {
        face();
        new LanguageTest().source();
        Check.end();
    }

    private static void face() {
        Class<?> c = OrderedTable.class;
        List<String> shown = new ArrayList<>();
        List<String> names = new ArrayList<>();
        for (Member m : c.getDeclaredFields()) {
            add(shown, m, m.getName());
        }
        for (var k : c.getDeclaredConstructors()) {
            add(shown, k, "<init>" + types(k.getParameterTypes()));
        }
        for (var m : c.getDeclaredMethods()) {
            add(shown, m, m.getName() + types(m.getParameterTypes()) + m.getReturnType().getSimpleName());
            if (Modifier.isPublic(m.getModifiers())) {
                names.add(m.getName());
            }
        }
        Check.due("the face", new TreeSet<>(shown).toString(), new TreeSet<>(Arrays.asList(FACE)).toString());
        Check.due("the class is public and final", c.getModifiers(), Modifier.PUBLIC | Modifier.FINAL);
        for (Class<?> inside : c.getDeclaredClasses()) {
            Check.due(inside.getName() + " is static", Modifier.isStatic(inside.getModifiers()) ? 1 : 0, 1);
            for (var m : inside.getDeclaredMethods()) {
                Check.due(inside.getName() + "." + m.getName() + " has the name of a public one",
                    names.contains(m.getName()) ? 1 : 0, 0);
            }
        }
        for (var m : c.getDeclaredMethods()) {
            boolean isPrivate = Modifier.isPrivate(m.getModifiers());
            Check.due(m.getName() + " has the name of a public one", isPrivate && names.contains(m.getName()) ? 1 : 0, 0);
        }
    }

    private static void add(List<String> shown, Member m, String as) {
        if (!Modifier.isPrivate(m.getModifiers()) && !m.isSynthetic()) {
            shown.add(Modifier.isPublic(m.getModifiers()) ? as : "not public: " + as);
        }
    }

    private static String types(Class<?>[] of) {
        StringBuilder all = new StringBuilder("(");
        for (Class<?> t : of) {
            all.append(all.length() == 1 ? "" : ",").append(t.getSimpleName());
        }
        return all.append(")").toString();
    }

    private void source() throws IOException {
        JavaCompiler javac = ToolProvider.getSystemJavaCompiler();
        StandardJavaFileManager files = javac.getStandardFileManager(null, null, null);
        JavacTask task = (JavacTask) javac.getTask(null, files, null, null, null, files.getJavaFileObjects(SOURCE));
        for (CompilationUnitTree unit : task.parse()) {
            task.analyze();
            Check.due("the package", String.valueOf(unit.getPackageName()), "null");
            Check.due("imports", unit.getImports().toString().trim(), "import java.util.Arrays;");
            new Look(unit, Trees.instance(task)).scan(unit, null);
        }
        Check.due("classes, at most 12", Math.max(classes, 12), 12);
        for (String method : calls.keySet()) {
            Check.due("calls below " + method + ", at most 8", Math.max(8, depth(method)), 8);
        }
        Check.due("methods looked at", calls.size() > 60 ? 1 : 0, 1);
    }

    /** How many methods stand open at once, this one and the library's among them; no recursion. */
    private int depth(String method) {
        Check.due(method + " is recursion", open.contains(method) ? 1 : 0, 0);
        if (open.contains(method)) {
            return 1000;
        }
        open.add(method);
        int deepest = 0;
        for (String next : calls.getOrDefault(method, Set.of())) {
            deepest = Math.max(deepest, depth(next));
        }
        open.remove(method);
        return deepest + 1;
    }

    private static String nameOf(Element method) {
        return method.getEnclosingElement().getSimpleName() + "." + method.getSimpleName();
    }

    private final class Look extends TreePathScanner<Void, Void> {
        private final CompilationUnitTree unit;
        private final Trees trees;
        private String method = "fields";

        Look(CompilationUnitTree unit, Trees trees) {
            this.unit = unit;
            this.trees = trees;
        }

        @Override
        public Void scan(Tree tree, Void v) {
            if (tree != null && REFUSED.contains(tree.getKind())) {
                Check.due("line " + line(trees.getSourcePositions().getStartPosition(unit, tree)),
                    tree.getKind().toString(), "no such thing");
            }
            return super.scan(tree, v);
        }

        private long line(long position) {
            return unit.getLineMap().getLineNumber(position);
        }

        @Override
        public Void visitClass(ClassTree tree, Void v) {
            classes++;
            int fields = 0;
            for (Tree member : tree.getMembers()) {
                if (member instanceof VariableTree) {
                    Set<?> flags = ((VariableTree) member).getModifiers().getFlags();
                    boolean isStatic = flags.contains(javax.lang.model.element.Modifier.STATIC);
                    fields += isStatic ? 0 : 1;
                    Check.due(((VariableTree) member).getName() + " is static and not final",
                        isStatic && !flags.contains(javax.lang.model.element.Modifier.FINAL) ? 1 : 0, 0);
                }
            }
            Check.due("fields of " + tree.getSimpleName() + ", at most 20", Math.max(20, fields), 20);
            return super.visitClass(tree, v);
        }

        @Override
        public Void visitMethod(MethodTree tree, Void v) {
            String before = method;
            method = nameOf(trees.getElement(getCurrentPath()));
            calls.putIfAbsent(method, new HashSet<>());
            long from = line(trees.getSourcePositions().getStartPosition(unit, tree));
            long to = line(Math.max(0, trees.getSourcePositions().getEndPosition(unit, tree)));
            Check.due("lines of " + method + ", at most 60", Math.max(60, to - from + 1), 60);
            Check.due("parameters of " + method + ", at most 7", Math.max(7, tree.getParameters().size()), 7);
            super.visitMethod(tree, v);
            method = before;
            return null;
        }

        @Override
        public Void visitMethodInvocation(MethodInvocationTree tree, Void v) {
            called(trees.getElement(getCurrentPath()));
            return super.visitMethodInvocation(tree, v);
        }

        @Override
        public Void visitNewClass(NewClassTree tree, Void v) {
            called(trees.getElement(getCurrentPath()));
            Check.due("an anonymous class in " + method, tree.getClassBody() == null ? 0 : 1, 0);
            return super.visitNewClass(tree, v);
        }

        @Override
        public Void visitBinary(BinaryTree tree, Void v) {
            TreePath left = new TreePath(getCurrentPath(), tree.getLeftOperand());
            if (tree.getKind() == Tree.Kind.PLUS) {
                Check.due("+ in " + method, String.valueOf(trees.getTypeMirror(left)), "int");
            }
            return super.visitBinary(tree, v);
        }

        private void called(Element e) {
            if (e == null || e.getKind() != ElementKind.METHOD && e.getKind() != ElementKind.CONSTRUCTOR) {
                return;
            }
            String name = nameOf((ExecutableElement) e);
            if (!inFile(e)) {
                Check.due(method + " calls " + name + " of the library", LIBRARY.contains(name) ? 1 : 0, 1);
            }
            calls.computeIfAbsent(method, k -> new HashSet<>()).add(name);
        }

        private boolean inFile(Element e) {
            Element top = e;
            while (top.getEnclosingElement() != null && top.getEnclosingElement().getKind() != ElementKind.PACKAGE) {
                top = top.getEnclosingElement();
            }
            return top.getSimpleName().contentEquals("OrderedTable");
        }
    }
}
