import com.sun.source.tree.ArrayTypeTree;
import com.sun.source.tree.AssertTree;
import com.sun.source.tree.BinaryTree;
import com.sun.source.tree.BlockTree;
import com.sun.source.tree.ClassTree;
import com.sun.source.tree.CompilationUnitTree;
import com.sun.source.tree.CompoundAssignmentTree;
import com.sun.source.tree.DoWhileLoopTree;
import com.sun.source.tree.ForLoopTree;
import com.sun.source.tree.IdentifierTree;
import com.sun.source.tree.ImportTree;
import com.sun.source.tree.LambdaExpressionTree;
import com.sun.source.tree.LiteralTree;
import com.sun.source.tree.MemberReferenceTree;
import com.sun.source.tree.MemberSelectTree;
import com.sun.source.tree.MethodInvocationTree;
import com.sun.source.tree.MethodTree;
import com.sun.source.tree.NewArrayTree;
import com.sun.source.tree.NewClassTree;
import com.sun.source.tree.SynchronizedTree;
import com.sun.source.tree.ThrowTree;
import com.sun.source.tree.Tree;
import com.sun.source.tree.TryTree;
import com.sun.source.tree.VariableTree;
import com.sun.source.tree.WhileLoopTree;
import com.sun.source.util.JavacTask;
import com.sun.source.util.TreePathScanner;
import com.sun.source.util.Trees;
import java.io.IOException;
import java.nio.file.Path;
import java.util.HashMap;
import java.util.HashSet;
import java.util.List;
import java.util.Map;
import java.util.Set;
import java.util.TreeSet;
import javax.lang.model.element.Element;
import javax.lang.model.element.ElementKind;
import javax.lang.model.element.ExecutableElement;
import javax.lang.model.element.Modifier;
import javax.lang.model.element.TypeElement;
import javax.lang.model.type.DeclaredType;
import javax.lang.model.type.TypeMirror;
import javax.tools.JavaCompiler;
import javax.tools.StandardJavaFileManager;
import javax.tools.ToolProvider;

/**
 * The rules of LANGUAGE.md that the compiler's tree shows, for the program as it is: it takes less
 * than the rules leave (no list, no text building, nothing made but in constructors), and a
 * program that needs more of them has to say so here. Rules 7 and 13 are for the reader.
 */
final class LanguageTest extends TreePathScanner<Void, Void> {
    private static final Path SOURCE = Path.of("src/main/java/StickWays.java");
    private static final Set<String> LIBRARY = Set.of("java.lang.String.indexOf(int)", "java.lang.String.length()",
        "java.lang.Integer.bitCount(int)", "java.lang.Math.abs(int)", "java.lang.Math.max(int,int)",
        "java.lang.Math.min(int,int)",
        "java.lang.System.arraycopy(java.lang.Object,int,java.lang.Object,int,int)", "java.lang.Object.Object()");
    private static final Set<String> TYPES = Set.of("java.lang.String", "java.lang.Integer", "java.lang.Math",
        "java.lang.System");
    private static final Set<String> CONSTANT_TYPES = Set.of("int", "long", "boolean", "char", "java.lang.String",
        "int[]", "long[]", "char[]", "byte[]");
    private static final int MOST_CLASSES = 12;
    private static final int MOST_FIELDS = 20;
    private static final int MOST_PARAMETERS = 7;
    private static final int MOST_LINES = 60;
    private static final int MOST_DEEP = 8;

    private final Trees trees;
    private final Set<String> publicNames = new TreeSet<>();
    private final Set<String> privateNames = new TreeSet<>();
    private final Map<Element, Set<Element>> callees = new HashMap<>();
    private int classes = 0;
    private Element caller;

    private LanguageTest(Trees trees) {
        this.trees = trees;
    }

    public static void main(String[] args) throws IOException {
        JavaCompiler compiler = ToolProvider.getSystemJavaCompiler();
        try (StandardJavaFileManager files = compiler.getStandardFileManager(null, null, null)) {
            JavacTask task = (JavacTask) compiler.getTask(null, files, null, List.of("-proc:none"), null,
                files.getJavaFileObjects(SOURCE));
            Iterable<? extends CompilationUnitTree> units = task.parse();
            task.analyze();
            LanguageTest test = new LanguageTest(Trees.instance(task));
            for (CompilationUnitTree unit : units) {
                Check.due("rule 1: no package line", unit.getPackageName() == null);
                Check.due("rule 1: one class in the file", unit.getTypeDecls().size(), 1);
                test.scan(unit, null);
            }
            test.atTheEnd();
        }
        Check.end();
    }

    private void rule(int number, String what, boolean holds, Tree at) {
        CompilationUnitTree unit = getCurrentPath().getCompilationUnit();
        long position = trees.getSourcePositions().getStartPosition(unit, at);
        long line = unit.getLineMap().getLineNumber(position);
        Check.due("rule " + number + ", line " + line + ": " + what, holds);
    }

    private Element element() {
        return trees.getElement(getCurrentPath());
    }

    private TypeMirror type() {
        return trees.getTypeMirror(getCurrentPath());
    }

    private static boolean isOwn(Element element) {
        Element each = element;
        while (each.getEnclosingElement() != null && each.getEnclosingElement().getKind() != ElementKind.PACKAGE) {
            each = each.getEnclosingElement();
        }
        return each.getSimpleName().contentEquals("StickWays");
    }

    @Override
    public Void visitImport(ImportTree tree, Void none) {
        rule(4, "an import", false, tree);
        return null;
    }

    @Override
    public Void visitClass(ClassTree tree, Void none) {
        classes++;
        Element element = element();
        Element outside = element.getEnclosingElement();
        Set<Modifier> modifiers = element.getModifiers();
        if (outside.getKind() == ElementKind.PACKAGE) {
            rule(1, "public and final", modifiers.containsAll(Set.of(Modifier.PUBLIC, Modifier.FINAL)), tree);
        } else {
            rule(2, "a class of its own inside", outside.getKind().isClass(), tree);
            rule(2, "static", modifiers.contains(Modifier.STATIC), tree);
            rule(1, "not public", !modifiers.contains(Modifier.PUBLIC)
                && !modifiers.contains(Modifier.PROTECTED), tree);
        }
        rule(2, "a plain class that extends none", tree.getKind() == Tree.Kind.CLASS
            && tree.getExtendsClause() == null && tree.getImplementsClause().isEmpty(), tree);
        int fields = 0;
        for (Tree member : tree.getMembers()) {
            fields += member instanceof VariableTree field
                && !field.getModifiers().getFlags().contains(Modifier.STATIC) ? 1 : 0;
            rule(5, "no initialiser block", !(member instanceof BlockTree), member);
        }
        rule(11, fields + " fields", fields <= MOST_FIELDS, tree);
        return super.visitClass(tree, none);
    }

    @Override
    public Void visitVariable(VariableTree tree, Void none) {
        Element element = element();
        if (element.getKind() == ElementKind.FIELD) {
            Set<Modifier> modifiers = element.getModifiers();
            boolean isStatic = modifiers.contains(Modifier.STATIC);
            rule(5, "static fields are final", !isStatic || modifiers.contains(Modifier.FINAL), tree);
            rule(5, "a constant is of " + element.asType(), !isStatic
                || CONSTANT_TYPES.contains(element.asType().toString()), tree);
        }
        return super.visitVariable(tree, none);
    }

    @Override
    public Void visitMethod(MethodTree tree, Void none) {
        ExecutableElement method = (ExecutableElement) element();
        String name = method.getSimpleName().toString();
        boolean isPublic = method.getModifiers().contains(Modifier.PUBLIC);
        (isPublic ? publicNames : privateNames).add(name);
        rule(6, "no " + name, !Set.of("equals", "hashCode", "toString").contains(name), tree);
        rule(6, "throws nothing", tree.getThrows().isEmpty(), tree);
        rule(11, "at most seven parameters", tree.getParameters().size() <= MOST_PARAMETERS, tree);
        CompilationUnitTree unit = getCurrentPath().getCompilationUnit();
        long begin = trees.getSourcePositions().getStartPosition(unit, tree);
        long end = trees.getSourcePositions().getEndPosition(unit, tree);
        long lines = unit.getLineMap().getLineNumber(end) - unit.getLineMap().getLineNumber(begin) + 1;
        rule(11, name + " has " + lines + " lines", lines <= MOST_LINES, tree);
        caller = method;
        callees.put(method, new HashSet<>());
        super.visitMethod(tree, none);
        caller = null;
        return null;
    }

    @Override
    public Void visitMethodInvocation(MethodInvocationTree tree, Void none) {
        called(element(), tree);
        return super.visitMethodInvocation(tree, none);
    }

    @Override
    public Void visitNewClass(NewClassTree tree, Void none) {
        rule(2, "no anonymous class", tree.getClassBody() == null, tree);
        rule(12, "made in a constructor", caller != null && caller.getKind() == ElementKind.CONSTRUCTOR, tree);
        called(element(), tree);
        return super.visitNewClass(tree, none);
    }

    private void called(Element callee, Tree tree) {
        if (isOwn(callee)) {
            rule(5, "no call in an initialiser", caller != null, tree);
            callees.computeIfAbsent(caller, each -> new HashSet<>()).add(callee);
        } else {
            String name = callee.getEnclosingElement() + "." + callee;
            rule(4, "library: " + name, LIBRARY.contains(name), tree);
        }
    }

    @Override
    public Void visitNewArray(NewArrayTree tree, Void none) {
        boolean isConstant = caller == null;
        rule(12, "made in a constructor", isConstant || caller.getKind() == ElementKind.CONSTRUCTOR, tree);
        return super.visitNewArray(tree, none);
    }

    @Override
    public Void visitArrayType(ArrayTypeTree tree, Void none) {
        rule(3, "of one dimension", !(tree.getType() instanceof ArrayTypeTree), tree);
        return super.visitArrayType(tree, none);
    }

    @Override
    public Void visitIdentifier(IdentifierTree tree, Void none) {
        typeIsLeft(element(), tree);
        return super.visitIdentifier(tree, none);
    }

    @Override
    public Void visitMemberSelect(MemberSelectTree tree, Void none) {
        typeIsLeft(element(), tree);
        return super.visitMemberSelect(tree, none);
    }

    private void typeIsLeft(Element element, Tree tree) {
        if (element instanceof TypeElement named) {
            rule(3, "type " + named, isOwn(named) || TYPES.contains(named.getQualifiedName().toString()), tree);
        }
    }

    @Override
    public Void visitLiteral(LiteralTree tree, Void none) {
        if (tree.getValue() instanceof String text) {
            rule(4, "signs 1 to 127", text.chars().allMatch(sign -> sign >= 1 && sign <= 127), tree);
        }
        return super.visitLiteral(tree, none);
    }

    @Override
    public Void visitBinary(BinaryTree tree, Void none) {
        TypeMirror type = type();
        rule(10, "no joined texts", type.getKind().isPrimitive(), tree);
        boolean compares = tree.getKind() == Tree.Kind.EQUAL_TO || tree.getKind() == Tree.Kind.NOT_EQUAL_TO;
        rule(6, "no == of texts", !compares || !isText(tree.getLeftOperand()) && !isText(tree.getRightOperand()), tree);
        return super.visitBinary(tree, none);
    }

    private boolean isText(Tree operand) {
        TypeMirror type = trees.getTypeMirror(trees.getPath(getCurrentPath().getCompilationUnit(), operand));
        return type instanceof DeclaredType declared && !isOwn(declared.asElement());
    }

    @Override
    public Void visitCompoundAssignment(CompoundAssignmentTree tree, Void none) {
        rule(10, "no joined texts", type().getKind().isPrimitive(), tree);
        return super.visitCompoundAssignment(tree, none);
    }

    @Override
    public Void visitForLoop(ForLoopTree tree, Void none) {
        rule(9, "a loop counts up to a bound", tree.getCondition() != null && tree.getUpdate().size() == 1, tree);
        return super.visitForLoop(tree, none);
    }

    @Override
    public Void visitWhileLoop(WhileLoopTree tree, Void none) {
        rule(9, "its end is not seen here: while", false, tree);
        return super.visitWhileLoop(tree, none);
    }

    @Override
    public Void visitDoWhileLoop(DoWhileLoopTree tree, Void none) {
        rule(9, "its end is not seen here: do", false, tree);
        return super.visitDoWhileLoop(tree, none);
    }

    @Override
    public Void visitLambdaExpression(LambdaExpressionTree tree, Void none) {
        rule(2, "no lambda", false, tree);
        return null;
    }

    @Override
    public Void visitMemberReference(MemberReferenceTree tree, Void none) {
        rule(2, "no method reference", false, tree);
        return null;
    }

    @Override
    public Void visitThrow(ThrowTree tree, Void none) {
        rule(6, "no throw", false, tree);
        return null;
    }

    @Override
    public Void visitTry(TryTree tree, Void none) {
        rule(6, "no try", false, tree);
        return null;
    }

    @Override
    public Void visitSynchronized(SynchronizedTree tree, Void none) {
        rule(6, "no synchronized", false, tree);
        return null;
    }

    @Override
    public Void visitAssert(AssertTree tree, Void none) {
        rule(6, "no assert", false, tree);
        return null;
    }

    private void atTheEnd() {
        Check.due("rule 11: " + classes + " classes", classes <= MOST_CLASSES);
        Check.due("the face is found", publicNames.size(), 24);
        privateNames.remove("<init>");
        for (String name : privateNames) {
            Check.due("rule 1: private " + name + " is not the name of a public one", !publicNames.contains(name));
        }
        Check.due("methods are found", callees.size() > 40);
        for (Element method : callees.keySet()) {
            int deep = depth(method, 1);
            Check.due("rule 11: calls of " + method + " go " + deep + " deep", deep <= MOST_DEEP);
        }
    }

    /** How many calls stand open at most; more than the rule's number if it calls itself. */
    private int depth(Element method, int depth) {
        if (depth > MOST_DEEP) {
            return depth;
        }
        int deepest = depth;
        for (Element callee : callees.getOrDefault(method, Set.of())) {
            deepest = Math.max(deepest, depth(callee, depth + 1));
        }
        return deepest;
    }
}
