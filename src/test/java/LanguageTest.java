import com.sun.source.tree.ArrayTypeTree;
import com.sun.source.tree.AssertTree;
import com.sun.source.tree.BinaryTree;
import com.sun.source.tree.ClassTree;
import com.sun.source.tree.CompilationUnitTree;
import com.sun.source.tree.InstanceOfTree;
import com.sun.source.tree.LambdaExpressionTree;
import com.sun.source.tree.MemberReferenceTree;
import com.sun.source.tree.MethodInvocationTree;
import com.sun.source.tree.MethodTree;
import com.sun.source.tree.NewClassTree;
import com.sun.source.tree.SynchronizedTree;
import com.sun.source.tree.ThrowTree;
import com.sun.source.tree.Tree;
import com.sun.source.tree.TryTree;
import com.sun.source.tree.VariableTree;
import com.sun.source.util.JavacTask;
import com.sun.source.util.TreePath;
import com.sun.source.util.TreePathScanner;
import com.sun.source.util.Trees;
import java.io.IOException;
import java.nio.charset.StandardCharsets;
import java.nio.file.Files;
import java.nio.file.Path;
import java.util.ArrayList;
import java.util.HashMap;
import java.util.HashSet;
import java.util.LinkedHashMap;
import java.util.List;
import java.util.Map;
import java.util.Set;
import java.util.TreeSet;
import javax.lang.model.element.Element;
import javax.lang.model.element.ExecutableElement;
import javax.lang.model.element.Modifier;
import javax.tools.StandardJavaFileManager;
import javax.tools.ToolProvider;

/** The rules of LANGUAGE.md, as far as they can be read off the program's syntax tree. */
public final class LanguageTest {
    private static final Path PROGRAM = Path.of("src/main/java/TinMouse.java");
    private static final int MOST_PARAMETERS = 7, MOST_LINES = 60, MOST_DEPTH = 8, MOST_CLASSES = 12, MOST_FIELDS = 20;
    private static final Set<String> LIBRARY = Set.of("java.lang.String.length", "java.lang.String.charAt",
        "java.lang.Math.min", "java.lang.Math.max", "java.lang.Math.abs");
    private static final List<String> FACE = List.of("int type long int", "int clear", "int table", "int cell int int",
        "int told int", "int toy int int", "int go int", "int wind int", "int put int int int", "int anew",
        "int now int", "int round int", "int starts int", "int rings int", "int common", "int safe", "int covers int",
        "int everywhere", "int best int", "int track int", "int wipe", "int fits int", "int meet int int int",
        "int drawn int", "int lot int", "int key int int", "int law int int", "int circle int int", "int rate int",
        "int keep int", "int back int", "int count int", "long trace");

    private final Checks checks = new Checks();
    private final Map<String, Set<String>> calls = new LinkedHashMap<>();
    private final Set<String> privateNames = new TreeSet<>();
    private final Set<String> face = new TreeSet<>();
    private int classes;

    public static void main(String[] args) throws IOException {
        LanguageTest test = new LanguageTest();
        test.readProgram();
        test.checkBytes();
        test.checkNames();
        test.checkDepth();
        test.checks.end();
    }

    private void fault(String what) {
        checks.due(what, 1, 0);
    }

    private void ask(boolean holds, String what) {
        checks.due(what, holds ? 0 : 1, 0);
    }

    private void readProgram() throws IOException {
        var compiler = ToolProvider.getSystemJavaCompiler();
        try (StandardJavaFileManager files = compiler.getStandardFileManager(null, null, null)) {
            JavacTask task = (JavacTask) compiler.getTask(null, files, null, List.of("-proc:none"), null,
                files.getJavaFileObjects(PROGRAM));
            CompilationUnitTree unit = task.parse().iterator().next();
            task.analyze();
            ask(unit.getPackage() == null, "a package line");
            ask(unit.getTypeDecls().size() == 1, "more than one class outside");
            new Rules(Trees.instance(task), unit).scan(unit, null);
        }
        ask(classes <= MOST_CLASSES, classes + " classes");
    }

    private void checkBytes() throws IOException {
        String text = Files.readString(PROGRAM, StandardCharsets.UTF_8);
        ask(text.chars().allMatch(c -> c == '\n' || c >= 32 && c < 127), "a sign that is not plain");
    }

    private void checkNames() {
        Set<String> want = new TreeSet<>();
        Set<String> names = new HashSet<>();
        for (String line : FACE) {
            String[] words = line.split(" ");
            names.add(words[1]);
            want.add(line);
        }
        want.add("<init>");
        ask(face.equals(want), "a face of " + face);
        for (String name : privateNames) {
            ask(!names.contains(name), "a private method with the public name " + name);
        }
    }

    private void checkDepth() {
        Map<String, Integer> depths = new HashMap<>();
        for (String method : calls.keySet()) {
            int depth = depth(method, depths, new ArrayList<>());
            ask(depth <= MOST_DEPTH, method + " goes " + depth + " deep");
        }
    }

    private int depth(String method, Map<String, Integer> known, List<String> open) {
        if (open.contains(method)) {
            fault(method + " calls itself by " + open);
            return 0;
        }
        if (!known.containsKey(method)) {
            open.add(method);
            int deepest = 0;
            for (String callee : calls.getOrDefault(method, Set.of())) {
                deepest = Math.max(deepest, depth(callee, known, open));
            }
            open.remove(method);
            known.put(method, deepest + 1);
        }
        return known.get(method);
    }

    private final class Rules extends TreePathScanner<Void, Void> {
        private final Trees trees;
        private final CompilationUnitTree unit;
        private String method = "";

        Rules(Trees trees, CompilationUnitTree unit) {
            this.trees = trees;
            this.unit = unit;
        }

        private long line(long position) {
            return unit.getLineMap().getLineNumber(position);
        }

        private void fault(Tree tree, String what) {
            LanguageTest.this.fault("line " + line(trees.getSourcePositions().getStartPosition(unit, tree)) + ": " + what);
        }

        private boolean isOuter() {
            return getCurrentPath().getParentPath().getLeaf() == unit;
        }

        @Override
        public Void visitClass(ClassTree tree, Void unused) {
            classes++;
            Set<Modifier> flags = tree.getModifiers().getFlags();
            if (isOuter()) {
                ask(flags.equals(Set.of(Modifier.PUBLIC, Modifier.FINAL)), "the class is not public and final");
            } else if (!flags.contains(Modifier.STATIC) || flags.contains(Modifier.PUBLIC)) {
                fault(tree, "a class inside that is not static and hidden");
            }
            int fields = 0;
            for (Tree member : tree.getMembers()) {
                if (member instanceof VariableTree field) {
                    fields += field.getModifiers().getFlags().contains(Modifier.STATIC) ? 0 : 1;
                    checkField(field, isOuter());
                } else if (member.getKind() == Tree.Kind.BLOCK) {
                    fault(member, "an initialiser block");
                }
            }
            ask(fields <= MOST_FIELDS, fields + " fields in " + tree.getSimpleName());
            return super.visitClass(tree, unused);
        }

        private void checkField(VariableTree field, boolean outer) {
            Set<Modifier> flags = field.getModifiers().getFlags();
            boolean constant = flags.contains(Modifier.STATIC) && flags.contains(Modifier.FINAL);
            if (flags.contains(Modifier.STATIC) && !constant) {
                fault(field, "a static field that changes");
            }
            List<String> open = List.of("BAD", "STATE", "FULL", "NONE", "NO");
            boolean isOpen = outer && open.contains(field.getName().toString());
            if (flags.contains(Modifier.PUBLIC) != isOpen || outer && !isOpen && !flags.contains(Modifier.PRIVATE)) {
                fault(field, "a field as open as " + flags);
            }
        }

        @Override
        public Void visitMethod(MethodTree tree, Void unused) {
            Element element = trees.getElement(getCurrentPath());
            String before = method;
            method = nameOf(element);
            boolean outer = element.getEnclosingElement().getSimpleName().contentEquals("TinMouse");
            boolean open = element.getModifiers().contains(Modifier.PUBLIC);
            calls.computeIfAbsent(method, k -> new TreeSet<>());
            if (outer && open) {
                face.add(faceOf(tree));
            } else {
                privateNames.add(tree.getName().toString());
            }
            if (outer && !open && !element.getModifiers().contains(Modifier.PRIVATE)) {
                fault(tree, "a method that others see");
            }
            if (tree.getParameters().size() > MOST_PARAMETERS) {
                fault(tree, "too many parameters");
            }
            long first = line(trees.getSourcePositions().getStartPosition(unit, tree));
            long last = trees.getSourcePositions().getEndPosition(unit, tree);
            if (last >= 0 && line(last) - first >= MOST_LINES) {
                fault(tree, "too long a method");
            }
            super.visitMethod(tree, unused);
            method = before;
            return null;
        }

        private String faceOf(MethodTree tree) {
            StringBuilder s = new StringBuilder();
            s.append(tree.getReturnType() == null ? "" : tree.getReturnType() + " ").append(tree.getName());
            tree.getParameters().forEach(p -> s.append(" ").append(p.getType()));
            return s.toString();
        }

        private String nameOf(Element element) {
            return element.getEnclosingElement() + "." + element;
        }

        private void addCall(TreePath path) {
            Element element = trees.getElement(path);
            if (!(element instanceof ExecutableElement)) {
                return;
            }
            String owner = element.getEnclosingElement().toString();
            if (owner.startsWith("TinMouse")) {
                calls.computeIfAbsent(method, k -> new TreeSet<>()).add(nameOf(element));
            } else if (!LIBRARY.contains(owner + "." + element.getSimpleName()) && !owner.equals("java.lang.Object")) {
                fault(path.getLeaf(), "a call of " + nameOf(element));
            }
        }

        @Override
        public Void visitMethodInvocation(MethodInvocationTree tree, Void unused) {
            addCall(getCurrentPath());
            return super.visitMethodInvocation(tree, unused);
        }

        @Override
        public Void visitNewClass(NewClassTree tree, Void unused) {
            addCall(getCurrentPath());
            if (tree.getClassBody() != null) {
                fault(tree, "a class without a name");
            }
            return super.visitNewClass(tree, unused);
        }

        @Override
        public Void visitBinary(BinaryTree tree, Void unused) {
            String type = String.valueOf(trees.getTypeMirror(getCurrentPath()));
            if (tree.getKind() == Tree.Kind.PLUS && type.equals("java.lang.String")) {
                fault(tree, "texts joined by +");
            }
            return super.visitBinary(tree, unused);
        }

        @Override
        public Void visitArrayType(ArrayTypeTree tree, Void unused) {
            if (tree.getType() instanceof ArrayTypeTree) {
                fault(tree, "an array of arrays, which the program does without");
            }
            return super.visitArrayType(tree, unused);
        }

        @Override
        public Void visitThrow(ThrowTree tree, Void unused) {
            fault(tree, "throw");
            return null;
        }

        @Override
        public Void visitTry(TryTree tree, Void unused) {
            fault(tree, "try");
            return null;
        }

        @Override
        public Void visitAssert(AssertTree tree, Void unused) {
            fault(tree, "assert");
            return null;
        }

        @Override
        public Void visitSynchronized(SynchronizedTree tree, Void unused) {
            fault(tree, "synchronized");
            return null;
        }

        @Override
        public Void visitLambdaExpression(LambdaExpressionTree tree, Void unused) {
            fault(tree, "a lambda");
            return null;
        }

        @Override
        public Void visitMemberReference(MemberReferenceTree tree, Void unused) {
            fault(tree, "a method reference");
            return null;
        }

        @Override
        public Void visitInstanceOf(InstanceOfTree tree, Void unused) {
            fault(tree, "instanceof, which the program does without");
            return null;
        }
    }
}
