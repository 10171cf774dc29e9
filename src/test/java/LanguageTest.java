import com.sun.source.tree.BinaryTree;
import com.sun.source.tree.ClassTree;
import com.sun.source.tree.CompilationUnitTree;
import com.sun.source.tree.ImportTree;
import com.sun.source.tree.MethodInvocationTree;
import com.sun.source.tree.MethodTree;
import com.sun.source.tree.NewClassTree;
import com.sun.source.tree.Tree;
import com.sun.source.tree.TryTree;
import com.sun.source.tree.VariableTree;
import com.sun.source.util.JavacTask;
import com.sun.source.util.TreePath;
import com.sun.source.util.TreePathScanner;
import com.sun.source.util.Trees;
import java.io.IOException;
import java.lang.reflect.Member;
import java.lang.reflect.Modifier;
import java.util.ArrayList;
import java.util.Arrays;
import java.util.EnumSet;
import java.util.HashMap;
import java.util.HashSet;
import java.util.List;
import java.util.Map;
import java.util.Set;
import java.util.TreeSet;
import javax.lang.model.element.Element;
import javax.lang.model.element.ElementKind;
import javax.lang.model.element.ExecutableElement;
import javax.lang.model.type.TypeMirror;
import javax.tools.JavaCompiler;
import javax.tools.StandardJavaFileManager;
import javax.tools.ToolProvider;

/** What a program can see of ../shared/LANGUAGE.md, looked for in the class; and the document's face. */
final class LanguageTest {
    private static final String SOURCE = "src/main/java/OrderedTable.java";
    private static final Set<Tree.Kind> REFUSED = EnumSet.of(Tree.Kind.LAMBDA_EXPRESSION,
        Tree.Kind.MEMBER_REFERENCE, Tree.Kind.ASSERT, Tree.Kind.SYNCHRONIZED);
    private static final Set<String> IMPORTS = Set.of("java.util.Arrays", "java.util.ArrayList", "java.util.List",
        "java.util.Iterator", "java.util.NoSuchElementException");
    private static final Set<String> LIBRARY = Set.of("System.arraycopy", "Arrays.copyOf", "Arrays.copyOfRange",
        "Arrays.fill", "Object.<init>", "Object.clone", "Array.clone", "Enum.<init>", "Enum.ordinal", "Record.<init>",
        "Iterator.hasNext", "Iterator.next", "Iterable.iterator", "Comparable.compareTo");
    private static final Set<String> OF_TEXTS = Set.of("length", "charAt", "isEmpty", "equals", "indexOf", "substring",
        "toCharArray", "<init>", "append", "setCharAt", "setLength", "deleteCharAt", "reverse", "toString");
    private static final Set<String> OF_LISTS = Set.of("<init>", "add", "get", "set", "remove", "size", "isEmpty", "clear", "of");
    private static final String[] FACE = {
        "NONE", "<init>(int)", "request(int,int,int,int)int", "again(int)void", "deliver(int)void", "lose(int)void",
        "flow(int)int", "down(int)void", "up(int)void", "suspect(int)void", "nudge(int)int", "sync(int)void",
        "fail()boolean", "install()int", "replica(int,int)int", "entry(int,int,int)int", "word(int,int)int",
        "client(int,int)int", "answer(int)int", "about(int)int", "message(int,int)int", "broken()int"};

    private final Map<String, Set<String>> calls = new HashMap<>();
    private final Set<String> open = new HashSet<>();
    private int classes;

    public static void main(String[] args) throws IOException {
        face();
        new LanguageTest().source();
        Check.end();
    }

    private static void face() {
        Class<?> c = OrderedTable.class;
        List<String> shown = new ArrayList<>();
        List<String> names = new ArrayList<>();
        for (Member m : c.getDeclaredFields()) {
            add(shown, m, m.getName());
        }
        for (var k : c.getDeclaredConstructors()) {
            add(shown, k, "<init>" + types(k.getParameterTypes()));
        }
        for (var m : c.getDeclaredMethods()) {
            add(shown, m, m.getName() + types(m.getParameterTypes()) + m.getReturnType().getSimpleName());
            if (Modifier.isPublic(m.getModifiers())) {
                names.add(m.getName());
            }
        }
        Check.due("the face", new TreeSet<>(shown).toString(), new TreeSet<>(Arrays.asList(FACE)).toString());
        Check.due("the class is public and final", c.getModifiers(), Modifier.PUBLIC | Modifier.FINAL);
        for (Class<?> inside : c.getDeclaredClasses()) {
            boolean shows = Modifier.isPublic(inside.getModifiers()) || Modifier.isProtected(inside.getModifiers());
            Check.due(inside.getName() + " is public or protected", shows ? 1 : 0, 0);
            for (var m : inside.getDeclaredMethods()) {
                boolean isPrivate = Modifier.isPrivate(m.getModifiers());
                Check.due(inside.getName() + "." + m.getName() + " has the name of a public one",
                    isPrivate && names.contains(m.getName()) ? 1 : 0, 0);
            }
        }
        for (var m : c.getDeclaredMethods()) {
            boolean isPrivate = Modifier.isPrivate(m.getModifiers());
            Check.due(m.getName() + " has the name of a public one", isPrivate && names.contains(m.getName()) ? 1 : 0, 0);
        }
    }

    private static void add(List<String> shown, Member m, String as) {
        if (!Modifier.isPrivate(m.getModifiers()) && !m.isSynthetic()) {
            shown.add(Modifier.isPublic(m.getModifiers()) ? as : "not public: " + as);
        }
    }

    private static String types(Class<?>[] of) {
        StringBuilder all = new StringBuilder("(");
        for (Class<?> t : of) {
            all.append(all.length() == 1 ? "" : ",").append(t.getSimpleName());
        }
        return all.append(")").toString();
    }

    private void source() throws IOException {
        JavaCompiler javac = ToolProvider.getSystemJavaCompiler();
        StandardJavaFileManager files = javac.getStandardFileManager(null, null, null);
        JavacTask task = (JavacTask) javac.getTask(null, files, null, null, null, files.getJavaFileObjects(SOURCE));
        for (CompilationUnitTree unit : task.parse()) {
            task.analyze();
            Check.due("the package", String.valueOf(unit.getPackageName()), "null");
            for (ImportTree one : unit.getImports()) {
                Check.due("import of " + one.getQualifiedIdentifier(),
                    IMPORTS.contains(one.getQualifiedIdentifier().toString()) ? 1 : 0, 1);
            }
            new Look(unit, Trees.instance(task)).scan(unit, null);
        }
        Check.due("classes, at most 12", Math.max(classes, 12), 12);
        for (String method : calls.keySet()) {
            Check.due("calls below " + method + ", at most 8", Math.max(8, depth(method)), 8);
        }
        Check.due("methods looked at", calls.size() > FACE.length ? 1 : 0, 1);
    }

    /** How many methods of the file stand open at once, this one among them; recursion is another rule's. */
    private int depth(String method) {
        if (!open.add(method)) {
            return 0;
        }
        int deepest = 0;
        for (String next : calls.getOrDefault(method, Set.of())) {
            deepest = Math.max(deepest, depth(next));
        }
        open.remove(method);
        return deepest + 1;
    }

    private static boolean isAllowed(String name) {
        String of = name.substring(0, name.indexOf('.'));
        String called = name.substring(name.indexOf('.') + 1);
        switch (of) {
            case "Math": case "Integer": case "Long": return !called.endsWith("Exact");
            case "String": case "StringBuilder": return OF_TEXTS.contains(called);
            case "List": case "ArrayList": return OF_LISTS.contains(called);
            default: return LIBRARY.contains(name) || of.endsWith("Exception") && called.equals("<init>");
        }
    }

    private static String nameOf(Element method) {
        return method.getEnclosingElement().getSimpleName() + "." + method.getSimpleName();
    }

    private final class Look extends TreePathScanner<Void, Void> {
        private final CompilationUnitTree unit;
        private final Trees trees;
        private String method = "fields";

        Look(CompilationUnitTree unit, Trees trees) {
            this.unit = unit;
            this.trees = trees;
        }

        @Override
        public Void scan(Tree tree, Void v) {
            if (tree != null && REFUSED.contains(tree.getKind())) {
                Check.due("line " + line(trees.getSourcePositions().getStartPosition(unit, tree)),
                    tree.getKind().toString(), "no such thing");
            }
            return super.scan(tree, v);
        }

        private long line(long position) {
            return unit.getLineMap().getLineNumber(position);
        }

        @Override
        public Void visitClass(ClassTree tree, Void v) {
            classes++;
            int fields = 0;
            for (Tree member : tree.getMembers()) {
                if (member instanceof VariableTree) {
                    Set<?> flags = ((VariableTree) member).getModifiers().getFlags();
                    boolean isStatic = flags.contains(javax.lang.model.element.Modifier.STATIC);
                    fields += isStatic ? 0 : 1;
                    Check.due(((VariableTree) member).getName() + " is static and not final",
                        isStatic && !flags.contains(javax.lang.model.element.Modifier.FINAL) ? 1 : 0, 0);
                }
            }
            Check.due("fields of " + tree.getSimpleName() + ", at most 20", Math.max(20, fields), 20);
            return super.visitClass(tree, v);
        }

        @Override
        public Void visitMethod(MethodTree tree, Void v) {
            String before = method;
            method = nameOf(trees.getElement(getCurrentPath()));
            calls.putIfAbsent(method, new HashSet<>());
            long from = line(trees.getSourcePositions().getStartPosition(unit, tree));
            long to = line(Math.max(0, trees.getSourcePositions().getEndPosition(unit, tree)));
            Check.due("lines of " + method + ", at most 60", Math.max(60, to - from + 1), 60);
            Check.due("parameters of " + method + ", at most 7", Math.max(7, tree.getParameters().size()), 7);
            super.visitMethod(tree, v);
            method = before;
            return null;
        }

        @Override
        public Void visitMethodInvocation(MethodInvocationTree tree, Void v) {
            called(trees.getElement(getCurrentPath()));
            return super.visitMethodInvocation(tree, v);
        }

        @Override
        public Void visitNewClass(NewClassTree tree, Void v) {
            called(trees.getElement(getCurrentPath()));
            return super.visitNewClass(tree, v);
        }

        @Override
        public Void visitTry(TryTree tree, Void v) {
            Check.due("finally, or resources, in " + method,
                tree.getFinallyBlock() != null || !tree.getResources().isEmpty() ? 1 : 0, 0);
            return super.visitTry(tree, v);
        }

        @Override
        public Void visitBinary(BinaryTree tree, Void v) {
            TreePath left = new TreePath(getCurrentPath(), tree.getLeftOperand());
            if (tree.getKind() == Tree.Kind.PLUS) {
                TypeMirror type = trees.getTypeMirror(left);
                Check.due("+ of texts in " + method, String.valueOf(type).equals("java.lang.String") ? 1 : 0, 0);
            }
            return super.visitBinary(tree, v);
        }

        private void called(Element e) {
            if (e == null || e.getKind() != ElementKind.METHOD && e.getKind() != ElementKind.CONSTRUCTOR) {
                return;
            }
            String name = nameOf((ExecutableElement) e);
            if (inFile(e)) {
                calls.computeIfAbsent(method, k -> new HashSet<>()).add(name);
            } else {
                Check.due(method + " calls " + name + " of the library", isAllowed(name) ? 1 : 0, 1);
            }
        }

        private boolean inFile(Element e) {
            Element top = e;
            while (top.getEnclosingElement() != null && top.getEnclosingElement().getKind() != ElementKind.PACKAGE) {
                top = top.getEnclosingElement();
            }
            return top.getSimpleName().contentEquals("OrderedTable");
        }
    }
}
