import com.sun.source.tree.*;
import com.sun.source.util.JavacTask;
import com.sun.source.util.SourcePositions;
import com.sun.source.util.TreeScanner;
import com.sun.source.util.Trees;
import java.nio.file.Path;
import java.util.List;
import java.util.Set;
import javax.lang.model.element.Modifier;
import javax.tools.JavaCompiler;
import javax.tools.ToolProvider;

/** The rules of LANGUAGE.md that the source's own tree shows; FaceTest has what reflection shows. */
public final class LanguageTest extends TreeScanner<Void, Void> {
    private static final Set<String> FACE = Set.of("set", "run", "note", "count");
    private static final Set<String> IMPORTS = Set.of("java.util.ArrayList", "java.util.List",
            "java.util.Iterator", "java.util.Arrays", "java.util.NoSuchElementException");
    /** Those of rule 6, and the two that the document names besides. */
    private static final Set<String> EXCEPTIONS = Set.of("IllegalStateException",
            "IllegalArgumentException", "IndexOutOfBoundsException", "ArithmeticException",
            "UnsupportedOperationException", "NoSuchElementException", "RuntimeException",
            "ArrayIndexOutOfBoundsException", "NullPointerException");
    private static final int MOST_PARAMETERS = 7;
    private static final int MOST_LINES = 70;
    private static final int MOST_CLASSES = 13;
    private static final int MOST_FIELDS = 24;

    private final CompilationUnitTree unit;
    private final SourcePositions places;
    private int classes;
    private MethodTree method;
    private boolean methodThrows;
    private boolean methodTries;

    private LanguageTest(CompilationUnitTree unit, SourcePositions places) {
        this.unit = unit;
        this.places = places;
    }

    public static void main(String[] args) throws java.io.IOException {
        JavaCompiler compiler = ToolProvider.getSystemJavaCompiler();
        var files = compiler.getStandardFileManager(null, null, null);
        var sources = files.getJavaFileObjects(Path.of(args[0]));
        JavacTask task = (JavacTask) compiler.getTask(null, files, null, null, null, sources);
        CompilationUnitTree unit = task.parse().iterator().next();
        LanguageTest test = new LanguageTest(unit, Trees.instance(task).getSourcePositions());
        test.scan(unit, null);
        test.rule(11, unit, "the file's classes", test.classes <= MOST_CLASSES);
        Bench.end();
    }

    private void rule(int number, Tree tree, String what, boolean kept) {
        Bench.due("rule " + number + ", line " + lineAt(places.getStartPosition(unit, tree)) + ": "
                + what, kept ? "kept" : "broken", "kept");
    }

    private long lineAt(long place) {
        return unit.getLineMap().getLineNumber(Math.max(place, 0));
    }

    @Override
    public Void visitCompilationUnit(CompilationUnitTree tree, Void none) {
        rule(1, tree, "no package", tree.getPackageName() == null);
        rule(1, tree, "one class in the file", tree.getTypeDecls().size() == 1);
        return super.visitCompilationUnit(tree, none);
    }

    @Override
    public Void visitImport(ImportTree tree, Void none) {
        String name = tree.getQualifiedIdentifier().toString();
        rule(4, tree, "import of " + name, !tree.isStatic() && IMPORTS.contains(name));
        return null;
    }

    @Override
    public Void visitClass(ClassTree tree, Void none) {
        classes++;
        Set<Modifier> flags = tree.getModifiers().getFlags();
        rule(1, tree, "inner classes are not public", classes == 1
                || !flags.contains(Modifier.PUBLIC) && !flags.contains(Modifier.PROTECTED));
        String above = String.valueOf(tree.getExtendsClause());
        rule(6, tree, "no exception class", !above.endsWith("Exception") && !above.endsWith("Error")
                && !above.endsWith("Throwable"));
        int fields = 0;
        for (Tree member : tree.getMembers()) {
            if (member instanceof VariableTree) {
                Set<Modifier> of = ((VariableTree) member).getModifiers().getFlags();
                fields += of.contains(Modifier.STATIC) ? 0 : 1;
                rule(5, member, "static fields are final",
                        !of.contains(Modifier.STATIC) || of.contains(Modifier.FINAL));
            }
            rule(5, member, "no static block",
                    !(member instanceof BlockTree) || !((BlockTree) member).isStatic());
        }
        rule(11, tree, "a class's fields", fields <= MOST_FIELDS);
        return super.visitClass(tree, none);
    }

    @Override
    public Void visitMethod(MethodTree tree, Void none) {
        MethodTree outer = method;
        boolean outerThrows = methodThrows;
        boolean outerTries = methodTries;
        method = tree;
        methodThrows = false;
        methodTries = false;
        String name = tree.getName().toString();
        Set<Modifier> flags = tree.getModifiers().getFlags();
        rule(1, tree, "no private method is named " + name,
                !flags.contains(Modifier.PRIVATE) || !FACE.contains(name));
        rule(10, tree, "not synchronized", !flags.contains(Modifier.SYNCHRONIZED));
        rule(11, tree, "a method's parameters", tree.getParameters().size() <= MOST_PARAMETERS);
        long lines = lineAt(places.getEndPosition(unit, tree))
                - lineAt(places.getStartPosition(unit, tree)) + 1;
        rule(11, tree, "a method's lines", lines <= MOST_LINES);
        super.visitMethod(tree, none);
        rule(6, tree, "a throw and a try in one method", !(methodThrows && methodTries));
        method = outer;
        methodThrows = outerThrows;
        methodTries = outerTries;
        return null;
    }

    @Override
    public Void visitThrow(ThrowTree tree, Void none) {
        methodThrows = true;
        rule(6, tree, "no throw in a constructor",
                method == null || !method.getName().contentEquals("<init>"));
        boolean isNew = tree.getExpression() instanceof NewClassTree;
        rule(6, tree, "throw new", isNew);
        if (isNew) {
            NewClassTree made = (NewClassTree) tree.getExpression();
            String name = simpleName(made.getIdentifier());
            rule(6, tree, "throws " + name, EXCEPTIONS.contains(name));
            rule(6, tree, "a written text", isWrittenText(made.getArguments()));
        }
        return super.visitThrow(tree, none);
    }

    private static boolean isWrittenText(List<? extends ExpressionTree> arguments) {
        return arguments.isEmpty()
                || arguments.size() == 1 && arguments.get(0).getKind() == Tree.Kind.STRING_LITERAL;
    }

    private static String simpleName(Tree type) {
        String name = type.toString();
        return name.substring(name.lastIndexOf('.') + 1);
    }

    @Override
    public Void visitTry(TryTree tree, Void none) {
        methodTries = true;
        rule(6, tree, "no finally", tree.getFinallyBlock() == null);
        rule(6, tree, "no resources", tree.getResources().isEmpty());
        return super.visitTry(tree, none);
    }

    @Override
    public Void visitCatch(CatchTree tree, Void none) {
        String type = simpleName(tree.getParameter().getType());
        rule(6, tree, "catches " + type, EXCEPTIONS.contains(type));
        String name = tree.getParameter().getName().toString();
        rule(6, tree, "leaves what it caught alone",
                !tree.getBlock().toString().matches("(?s).*\\b" + name + "\\b.*"));
        return super.visitCatch(tree, none);
    }

    @Override
    public Void visitBinary(BinaryTree tree, Void none) {
        boolean joins = tree.getKind() == Tree.Kind.PLUS && (isText(tree.getLeftOperand())
                || isText(tree.getRightOperand()));
        rule(10, tree, "joins no texts by +", !joins);
        return super.visitBinary(tree, none);
    }

    private static boolean isText(Tree tree) {
        return tree.getKind() == Tree.Kind.STRING_LITERAL;
    }

    @Override
    public Void visitMethodInvocation(MethodInvocationTree tree, Void none) {
        String called = tree.getMethodSelect().toString();
        rule(4, tree, "no " + called, !called.endsWith("Exact") && !called.startsWith("System.")
                || called.equals("System.arraycopy"));
        return super.visitMethodInvocation(tree, none);
    }

    @Override
    public Void visitLambdaExpression(LambdaExpressionTree tree, Void none) {
        rule(2, tree, "no lambda", false);
        return super.visitLambdaExpression(tree, none);
    }

    @Override
    public Void visitMemberReference(MemberReferenceTree tree, Void none) {
        rule(2, tree, "no method reference", false);
        return super.visitMemberReference(tree, none);
    }

    @Override
    public Void visitSynchronized(SynchronizedTree tree, Void none) {
        rule(6, tree, "no synchronized", false);
        return super.visitSynchronized(tree, none);
    }

    @Override
    public Void visitAssert(AssertTree tree, Void none) {
        rule(6, tree, "no assert", false);
        return super.visitAssert(tree, none);
    }
}
