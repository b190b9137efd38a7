import com.sun.source.tree.AssertTree;
import com.sun.source.tree.BinaryTree;
import com.sun.source.tree.ClassTree;
import com.sun.source.tree.CompilationUnitTree;
import com.sun.source.tree.ImportTree;
import com.sun.source.tree.LambdaExpressionTree;
import com.sun.source.tree.MemberReferenceTree;
import com.sun.source.tree.MethodInvocationTree;
import com.sun.source.tree.MethodTree;
import com.sun.source.tree.NewClassTree;
import com.sun.source.tree.SynchronizedTree;
import com.sun.source.tree.ThrowTree;
import com.sun.source.tree.Tree;
import com.sun.source.tree.TryTree;
import com.sun.source.tree.VariableTree;
import com.sun.source.util.JavacTask;
import com.sun.source.util.TreePathScanner;
import com.sun.source.util.Trees;
import java.nio.file.Path;
import java.util.HashMap;
import java.util.HashSet;
import java.util.List;
import java.util.Map;
import java.util.Set;
import java.util.TreeMap;
import java.util.TreeSet;
import javax.lang.model.element.Element;
import javax.lang.model.element.ElementKind;
import javax.lang.model.element.Modifier;
import javax.lang.model.type.TypeKind;
import javax.lang.model.type.TypeMirror;
import javax.tools.JavaCompiler;
import javax.tools.StandardJavaFileManager;
import javax.tools.ToolProvider;

/** The rules of LANGUAGE.md that a program can look at, and the face of the document. */
public final class LanguageTest {
    private static final String FACE = "MusicChairs() ahead(int,int,int) away(int,int,int) back(int) begin(int,int,int)"
        + " bring(int) chair(int,int) count(int) end(int) feed(int,int,int,int,int) force(int) gone(int) guest(int,int)"
        + " image(int) kind(int) longest() look(int,int) meet(int,int) note(int,int,int) pace(int,int) party()"
        + " pence(int,int) play(int) quicks(int) rests(int,int,int,int) round() row(int,int,int) rule() ruled(int)"
        + " safe(int,int) seed(int) steps(int) swap(int,int) time(int,int) tour() tunes(int,int,int) undo() winner(int)"
        + " within(int)";
    private static final Set<String> LIBRARY = Set.of("java.lang.Object.<init>", "java.lang.String.length",
        "java.lang.String.charAt", "java.lang.Integer.bitCount", "java.lang.Integer.numberOfTrailingZeros",
        "java.lang.Math.abs", "java.lang.Math.max", "java.lang.Math.min", "java.lang.System.arraycopy", "java.util.Arrays.copyOf",
        "java.util.Arrays.fill");
    private static final Set<String> RECURSION = Set.of("Forecast.rowsFrom");
    private static final int MOST_LINES = 60;
    private static final int MOST_PARAMETERS = 7;
    private static final int MOST_FIELDS = 20;
    private static final int MOST_CLASSES = 12;
    private static final int DEEPEST = 8;

    private final Map<String, Set<String>> calls = new TreeMap<>();
    private final Set<String> faces = new TreeSet<>();
    private final Set<String> names = new HashSet<>();
    private final Set<String> privates = new HashSet<>();
    private int classes = 0;
    private Trees trees;
    private CompilationUnitTree unit;

    public static void main(String[] args) throws Exception {
        new LanguageTest().look(Path.of("src/main/java/MusicChairs.java"));
        Due.end("LanguageTest");
    }

    private void look(Path file) throws Exception {
        JavaCompiler compiler = ToolProvider.getSystemJavaCompiler();
        try (StandardJavaFileManager files = compiler.getStandardFileManager(null, null, null)) {
            JavacTask task = (JavacTask) compiler.getTask(null, files, null, List.of("-proc:none"), null,
                files.getJavaFileObjects(file));
            unit = task.parse().iterator().next();
            task.analyze();
            trees = Trees.instance(task);
            Due.holds("no package", unit.getPackageName() == null);
            Due.is("one class", unit.getTypeDecls().size(), 1);
            new Scanner().scan(unit, null);
        }
        Due.holds("face: " + faces, String.join(" ", faces).equals(FACE));
        Due.holds("classes: " + classes, classes <= MOST_CLASSES);
        for (String name : privates) {
            Due.holds("no other method bears the name " + name, !names.contains(name));
        }
        for (String method : calls.keySet()) {
            boolean again = reaches(method, method, new HashSet<>());
            Due.holds("recursion of " + method, again == RECURSION.contains(method));
        }
        Map<String, Integer> known = new HashMap<>();
        for (String method : calls.keySet()) {
            Due.holds("calls from " + method + " on: " + depth(method, known), depth(method, known) <= DEEPEST);
        }
    }

    private boolean reaches(String from, String wanted, Set<String> seen) {
        for (String next : calls.getOrDefault(from, Set.of())) {
            if (next.equals(wanted) || seen.add(next) && reaches(next, wanted, seen)) {
                return true;
            }
        }
        return false;
    }

    private int depth(String method, Map<String, Integer> known) {
        Integer found = known.get(method);
        if (found != null) {
            return found;
        }
        int most = 0;
        for (String next : calls.getOrDefault(method, Set.of())) {
            most = next.equals(method) ? most : Math.max(most, depth(next, known));
        }
        known.put(method, most + 1);
        return most + 1;
    }

    private final class Scanner extends TreePathScanner<Void, Void> {
        private String method = "";

        @Override
        public Void visitImport(ImportTree tree, Void nothing) {
            String name = tree.getQualifiedIdentifier().toString();
            Due.holds("import " + name, Set.of("java.util.ArrayList", "java.util.List", "java.util.Arrays").contains(name));
            return super.visitImport(tree, nothing);
        }

        @Override
        public Void visitClass(ClassTree tree, Void nothing) {
            classes++;
            method = "";
            Element element = trees.getElement(getCurrentPath());
            boolean outer = element.getEnclosingElement().getKind() == ElementKind.PACKAGE;
            Set<Modifier> flags = element.getModifiers();
            String name = tree.getSimpleName().toString();
            Due.holds(name + " is final", flags.contains(Modifier.FINAL));
            Due.holds(name + " stands as it may", outer ? flags.contains(Modifier.PUBLIC)
                : flags.contains(Modifier.STATIC) && !flags.contains(Modifier.PUBLIC) && !flags.contains(Modifier.PROTECTED));
            int fields = 0;
            for (Tree member : tree.getMembers()) {
                if (member instanceof VariableTree && !((VariableTree) member).getModifiers().getFlags().contains(Modifier.STATIC)) {
                    fields++;
                }
                Due.holds(name + ": no initialiser", member.getKind() != Tree.Kind.BLOCK);
            }
            Due.holds(name + ": fields " + fields, fields <= MOST_FIELDS);
            return super.visitClass(tree, nothing);
        }

        @Override
        public Void visitVariable(VariableTree tree, Void nothing) {
            Element element = trees.getElement(getCurrentPath());
            if (element.getKind() == ElementKind.FIELD) {
                Set<Modifier> flags = element.getModifiers();
                boolean none = tree.getName().contentEquals("NONE");
                Due.holds(tree.getName() + " is private", flags.contains(Modifier.PRIVATE) != none);
                Due.holds(tree.getName() + " is final if static", !flags.contains(Modifier.STATIC) || flags.contains(Modifier.FINAL));
                if (flags.contains(Modifier.STATIC)) {
                    TypeKind kind = element.asType().getKind();
                    Due.holds(tree.getName() + " is a constant", kind == TypeKind.INT);
                }
            }
            return super.visitVariable(tree, nothing);
        }

        @Override
        public Void visitMethod(MethodTree tree, Void nothing) {
            Element element = trees.getElement(getCurrentPath());
            String owner = element.getEnclosingElement().getSimpleName().toString();
            String name = tree.getName().toString();
            if (trees.getSourcePositions().getStartPosition(unit, tree) < 0) {
                return null;
            }
            method = owner + "." + name;
            Due.holds(method + " has a name of its own", calls.put(method, new TreeSet<>()) == null);
            if (owner.equals("MusicChairs") && element.getModifiers().contains(Modifier.PUBLIC)) {
                StringBuilder all = new StringBuilder(name.equals("<init>") ? owner : name).append('(');
                for (VariableTree one : tree.getParameters()) {
                    all.append(all.charAt(all.length() - 1) == '(' ? "" : ",").append(one.getType());
                }
                faces.add(all.append(')').toString());
                names.add(name.equals("<init>") ? "" : name);
                Due.holds(method + " answers an int", name.equals("<init>") || tree.getReturnType().toString().equals("int"));
            } else {
                privates.add(name);
                Due.holds(method + " is private", element.getModifiers().contains(Modifier.PRIVATE));
            }
            long from = unit.getLineMap().getLineNumber(trees.getSourcePositions().getStartPosition(unit, tree));
            long to = unit.getLineMap().getLineNumber(trees.getSourcePositions().getEndPosition(unit, tree));
            Due.holds(method + " has " + (to - from + 1) + " lines", to - from + 1 <= MOST_LINES);
            Due.holds(method + "'s parameters", tree.getParameters().size() <= MOST_PARAMETERS);
            return super.visitMethod(tree, nothing);
        }

        @Override
        public Void visitMethodInvocation(MethodInvocationTree tree, Void nothing) {
            note(trees.getElement(getCurrentPath()));
            return super.visitMethodInvocation(tree, nothing);
        }

        @Override
        public Void visitNewClass(NewClassTree tree, Void nothing) {
            note(trees.getElement(getCurrentPath()));
            Due.holds(method + ": no class without a name", tree.getClassBody() == null);
            return super.visitNewClass(tree, nothing);
        }

        private void note(Element called) {
            String owner = called.getEnclosingElement().toString();
            if (owner.startsWith("MusicChairs")) {
                if (!method.isEmpty()) {
                    calls.get(method).add(called.getEnclosingElement().getSimpleName() + "." + called.getSimpleName());
                }
            } else {
                String name = owner + "." + called.getSimpleName();
                Due.holds("library: " + name, LIBRARY.contains(name));
            }
        }

        @Override
        public Void visitBinary(BinaryTree tree, Void nothing) {
            TypeMirror type = trees.getTypeMirror(getCurrentPath());
            Due.holds(method + ": no texts joined by +", !String.valueOf(type).equals("java.lang.String"));
            return super.visitBinary(tree, nothing);
        }

        private Void refuse(String what) {
            Due.holds(method + ": no " + what, false);
            return null;
        }

        @Override
        public Void visitThrow(ThrowTree tree, Void nothing) {
            return refuse("throw");
        }

        @Override
        public Void visitTry(TryTree tree, Void nothing) {
            return refuse("try");
        }

        @Override
        public Void visitSynchronized(SynchronizedTree tree, Void nothing) {
            return refuse("synchronized");
        }

        @Override
        public Void visitAssert(AssertTree tree, Void nothing) {
            return refuse("assert");
        }

        @Override
        public Void visitLambdaExpression(LambdaExpressionTree tree, Void nothing) {
            return refuse("lambda");
        }

        @Override
        public Void visitMemberReference(MemberReferenceTree tree, Void nothing) {
            return refuse("method reference");
        }
    }
}
