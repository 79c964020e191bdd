import com.sun.source.tree.ArrayAccessTree;
import com.sun.source.tree.BinaryTree;
import com.sun.source.tree.BlockTree;
import com.sun.source.tree.ClassTree;
import com.sun.source.tree.CompilationUnitTree;
import com.sun.source.tree.LiteralTree;
import com.sun.source.tree.MethodInvocationTree;
import com.sun.source.tree.MethodTree;
import com.sun.source.tree.NewArrayTree;
import com.sun.source.tree.NewClassTree;
import com.sun.source.tree.Tree;
import com.sun.source.tree.VariableTree;
import com.sun.source.util.JavacTask;
import com.sun.source.util.SourcePositions;
import com.sun.source.util.TreePathScanner;
import com.sun.source.util.Trees;
import java.nio.file.Path;
import java.util.ArrayList;
import java.util.Arrays;
import java.util.EnumSet;
import java.util.HashSet;
import java.util.LinkedHashMap;
import java.util.List;
import java.util.Map;
import java.util.Set;
import java.util.TreeSet;
import javax.lang.model.element.Element;
import javax.lang.model.element.ElementKind;
import javax.lang.model.element.ExecutableElement;
import javax.lang.model.element.Modifier;
import javax.lang.model.type.TypeKind;
import javax.tools.JavaCompiler;
import javax.tools.StandardJavaFileManager;
import javax.tools.ToolProvider;

/** The program's source against those rules of LANGUAGE.md that its syntax tree shows. Its path is the argument. */
public final class LanguageTest extends TreePathScanner<Void, Void> {
    private static final Set<String> FACE = new TreeSet<>(Arrays.asList(
        "NONE:int", "BAD:int", "STATE:int", "FULL:int", "NO:long", "<init>:()void",
        "trader:(int,int)int", "of:(int,int)int", "owe:(int,int,int)int", "purse:(int,int)int",
        "reads:(int,int,int,int)int", "shake:(int,int,int)int", "between:(int,int,int)int",
        "squeezes:(int,int,int,int)int", "row:(int,int,int)int", "feed:(int)int", "exchange:()int",
        "told:(int)int", "pass:(int)int", "see:(int,int,int,int,int)int", "wrong:()int",
        "can:(int,int)int", "odds:(int)long", "mean:(int)long", "plan:(int,int)int", "ends:(int)int",
        "book:(int,int,int)int", "looked:()int", "judge:(int,int)int", "image:()int", "undo:()int",
        "act:(int,int,int)int", "trace:(int)int", "taken:(int,int)int", "count:(int)int",
        "tape:(int,int,int)int", "item:(int,int,long)int", "read:(int,int)long",
        "shift:(int,int,int,int,int)int"));

    private static final Set<String> LIBRARY = new HashSet<>(Arrays.asList(
        "java.lang.String.length", "java.lang.String.charAt", "java.lang.System.arraycopy",
        "java.lang.Math.min", "java.lang.Math.max", "java.lang.Math.abs", "java.lang.Integer.bitCount",
        "java.lang.Object.<init>"));

    private static final Set<Tree.Kind> REFUSED = EnumSet.of(
        Tree.Kind.THROW, Tree.Kind.TRY, Tree.Kind.CATCH, Tree.Kind.SYNCHRONIZED, Tree.Kind.ASSERT,
        Tree.Kind.LAMBDA_EXPRESSION, Tree.Kind.MEMBER_REFERENCE, Tree.Kind.SWITCH_EXPRESSION,
        Tree.Kind.IMPORT, Tree.Kind.PACKAGE, Tree.Kind.INSTANCE_OF,
        // Rule 9: all loops here are counted ones.
        Tree.Kind.WHILE_LOOP, Tree.Kind.DO_WHILE_LOOP);

    private final Trees trees;
    private final SourcePositions positions;
    private final CompilationUnitTree unit;
    private final Set<String> face = new TreeSet<>();
    private final Set<String> hidden = new TreeSet<>();
    private final Map<String, Set<String>> calls = new LinkedHashMap<>();
    private String method = "";
    private int classes;

    private LanguageTest(Trees trees, CompilationUnitTree unit) {
        this.trees = trees;
        this.positions = trees.getSourcePositions();
        this.unit = unit;
    }

    public static void main(String[] args) throws Exception {
        Due.about("the language");
        Path path = Path.of(args.length > 0 ? args[0] : "src/main/java/HandshakeBinds.java");
        JavaCompiler compiler = ToolProvider.getSystemJavaCompiler();
        try (StandardJavaFileManager files = compiler.getStandardFileManager(null, null, null)) {
            JavacTask task = (JavacTask) compiler.getTask(null, files, null, List.of("-proc:none"), null,
                files.getJavaFileObjects(path));
            CompilationUnitTree unit = task.parse().iterator().next();
            task.analyze();
            LanguageTest test = new LanguageTest(Trees.instance(task), unit);
            test.scan(unit, null);
            test.end();
        }
        Due.finish();
    }

    private void end() {
        Due.due("classes above twelve", Math.max(classes, 12), 12);
        expect(face.equals(FACE), "the face is " + face);
        for (String name : hidden) {
            expect(!isPublicName(name), "a hidden method has a public one's name: " + name);
        }
        List<String> longest = new ArrayList<>();
        for (String from : calls.keySet()) {
            List<String> chain = chain(from, new ArrayList<>());
            longest = chain.size() > longest.size() ? chain : longest;
        }
        expect(longest.size() <= 8, "calls go " + longest.size() + " deep: " + longest);
        System.out.println("the deepest calls: " + longest);
    }

    private static boolean isPublicName(String name) {
        return FACE.stream().anyMatch(f -> f.startsWith(name + ":("));
    }

    private List<String> chain(String from, List<String> open) {
        List<String> best = new ArrayList<>();
        if (!open.contains(from)) {
            open.add(from);
            for (String to : calls.getOrDefault(from, Set.of())) {
                List<String> rest = chain(to, open);
                best = rest.size() > best.size() ? rest : best;
            }
            open.remove(from);
            best = new ArrayList<>(best);
            best.add(0, from);
        }
        return best;
    }

    private void expect(boolean good, String otherwise) {
        if (!good) {
            Due.fault(otherwise);
        } else {
            Due.due(0, 0);
        }
    }

    private String place(Tree tree) {
        return "line " + unit.getLineMap().getLineNumber(positions.getStartPosition(unit, tree)) + ": ";
    }

    private Element element() {
        return trees.getElement(getCurrentPath());
    }

    @Override
    public Void scan(Tree tree, Void p) {
        if (tree != null) {
            expect(!REFUSED.contains(tree.getKind()), place(tree) + "refused: " + tree.getKind());
        }
        return super.scan(tree, p);
    }

    @Override
    public Void visitClass(ClassTree tree, Void p) {
        classes++;
        Element e = element();
        boolean outer = e.getEnclosingElement().getKind() == ElementKind.PACKAGE;
        Set<Modifier> is = e.getModifiers();
        expect(is.contains(Modifier.FINAL), place(tree) + "a class that is not final");
        expect(outer ? is.contains(Modifier.PUBLIC) : is.contains(Modifier.STATIC), place(tree) + "not static");
        expect(outer || !is.contains(Modifier.PUBLIC) && !is.contains(Modifier.PROTECTED), place(tree) + "not hidden");
        int fields = 0;
        for (Tree member : tree.getMembers()) {
            expect(!(member instanceof BlockTree), place(member) + "an initialiser block");
            if (member instanceof VariableTree
                && !((VariableTree) member).getModifiers().getFlags().contains(Modifier.STATIC)) {
                fields++;
            }
        }
        expect(fields <= 20, place(tree) + fields + " fields");
        return super.visitClass(tree, p);
    }

    @Override
    public Void visitVariable(VariableTree tree, Void p) {
        Element e = element();
        if (e.getKind() == ElementKind.FIELD) {
            Set<Modifier> is = e.getModifiers();
            if (is.contains(Modifier.PUBLIC)) {
                face.add(e.getSimpleName() + ":" + e.asType());
            } else {
                expect(is.contains(Modifier.PRIVATE), place(tree) + "a field that is not private");
            }
            expect(!is.contains(Modifier.STATIC) || is.contains(Modifier.FINAL), place(tree) + "static, not final");
        }
        TypeKind kind = e.asType().getKind();
        expect(kind != TypeKind.DOUBLE && kind != TypeKind.FLOAT, place(tree) + "a floating number");
        return super.visitVariable(tree, p);
    }

    @Override
    public Void visitMethod(MethodTree tree, Void p) {
        ExecutableElement e = (ExecutableElement) element();
        String owner = e.getEnclosingElement().getSimpleName().toString();
        String name = e.getSimpleName().toString();
        if (owner.equals("HandshakeBinds")) {
            if (e.getModifiers().contains(Modifier.PUBLIC)) {
                face.add(name + ":" + e.asType());
            } else {
                expect(e.getModifiers().contains(Modifier.PRIVATE), place(tree) + "neither public nor private");
                hidden.add(name);
            }
        } else {
            expect(!e.getModifiers().contains(Modifier.PUBLIC), place(tree) + "public in a class inside");
            hidden.add(name);
        }
        hidden.remove("<init>");
        expect(tree.getParameters().size() <= 7, place(tree) + "more than seven parameters");
        long lines = unit.getLineMap().getLineNumber(positions.getEndPosition(unit, tree))
            - unit.getLineMap().getLineNumber(positions.getStartPosition(unit, tree)) + 1;
        expect(lines <= 60, place(tree) + name + " has " + lines + " lines");
        method = owner + "." + name;
        calls.computeIfAbsent(method, k -> new TreeSet<>());
        super.visitMethod(tree, p);
        method = "";
        return null;
    }

    @Override
    public Void visitMethodInvocation(MethodInvocationTree tree, Void p) {
        calledFrom(tree, trees.getElement(getCurrentPath()));
        return super.visitMethodInvocation(tree, p);
    }

    private void calledFrom(Tree tree, Element called) {
        Element owner = called.getEnclosingElement();
        boolean own = owner.toString().startsWith("HandshakeBinds");
        String full = owner + "." + called.getSimpleName();
        expect(own || LIBRARY.contains(full), place(tree) + "not of the library: " + full);
        if (own && !method.isEmpty()) {
            calls.get(method).add(owner.getSimpleName() + "." + called.getSimpleName());
        }
    }

    @Override
    public Void visitNewClass(NewClassTree tree, Void p) {
        Element e = element();
        expect(e.getEnclosingElement().toString().startsWith("HandshakeBinds."), place(tree) + "makes " + e);
        expect(tree.getClassBody() == null, place(tree) + "an anonymous class");
        expect(method.isEmpty() || method.endsWith("<init>"), place(tree) + "an object made by a call: " + e);
        return super.visitNewClass(tree, p);
    }

    @Override
    public Void visitNewArray(NewArrayTree tree, Void p) {
        expect(method.isEmpty() || method.endsWith("<init>"), place(tree) + "an array made by a call");
        return super.visitNewArray(tree, p);
    }

    @Override
    public Void visitBinary(BinaryTree tree, Void p) {
        String type = String.valueOf(trees.getTypeMirror(getCurrentPath()));
        expect(!type.equals("java.lang.String"), place(tree) + "texts joined by +");
        return super.visitBinary(tree, p);
    }

    @Override
    public Void visitArrayAccess(ArrayAccessTree tree, Void p) {
        String index = tree.getIndex().toString();
        expect(!index.contains("++") && !index.contains("--"), place(tree) + "an index that changes while it is used");
        return super.visitArrayAccess(tree, p);
    }

    @Override
    public Void visitLiteral(LiteralTree tree, Void p) {
        if (tree.getValue() instanceof String || tree.getValue() instanceof Character) {
            expect(tree.getValue().toString().chars().allMatch(c -> c >= 1 && c <= 127), place(tree) + "a strange sign");
        }
        return super.visitLiteral(tree, p);
    }
}
