import com.sun.source.tree.*;
import java.util.List;
import java.util.Set;
import javax.lang.model.element.Modifier;

/**
 * LANGUAGE.md's rules 1, 2, 5, 6, 10 and 11 in the source's own tree; FaceTest has what reflection
 * shows, LanguageUseTest the other rules.
 */
public final class LanguageTest extends SourceRules {
    private static final Set<String> FACE = Set.of("set", "run", "note", "count");
    /** Those of rule 6, and the two that the document names besides. */
    private static final Set<String> EXCEPTIONS = Set.of("IllegalStateException",
            "IllegalArgumentException", "IndexOutOfBoundsException", "ArithmeticException",
            "UnsupportedOperationException", "NoSuchElementException", "RuntimeException",
            "ArrayIndexOutOfBoundsException", "NullPointerException");
    /** Rule 6: objects have none of their own. */
    private static final Set<String> OF_OBJECTS = Set.of("equals", "hashCode", "toString");
    /** Rule 5. */
    private static final Set<String> CONSTANTS = Set.of("int", "long", "boolean", "char", "String",
            "int[]", "long[]", "char[]", "byte[]");
    private static final int MOST_PARAMETERS = 7;
    private static final int MOST_LINES = 70;
    private static final int MOST_CLASSES = 13;
    private static final int MOST_FIELDS = 24;

    private int classes;
    private MethodTree method;
    private boolean methodThrows;
    private boolean methodTries;

    public static void main(String[] args) throws java.io.IOException {
        LanguageTest test = new LanguageTest();
        test.scanFile(args[0]);
        test.rule(11, test.unit(), "the file's classes", test.classes <= MOST_CLASSES);
        Bench.end();
    }

    @Override
    public Void visitCompilationUnit(CompilationUnitTree tree, Void none) {
        rule(1, tree, "no package", tree.getPackageName() == null);
        rule(1, tree, "one class in the file", tree.getTypeDecls().size() == 1);
        return super.visitCompilationUnit(tree, none);
    }

    @Override
    public Void visitClass(ClassTree tree, Void none) {
        classes++;
        Set<Modifier> flags = tree.getModifiers().getFlags();
        rule(1, tree, "inner classes are not public", classes == 1
                || !flags.contains(Modifier.PUBLIC) && !flags.contains(Modifier.PROTECTED));
        String above = String.valueOf(tree.getExtendsClause());
        rule(6, tree, "no exception class", !above.endsWith("Exception") && !above.endsWith("Error")
                && !above.endsWith("Throwable"));
        int fields = 0;
        for (Tree member : tree.getMembers()) {
            if (member instanceof VariableTree) {
                fields += isConstant((VariableTree) member) ? 0 : 1;
            }
            rule(5, member, "no static block",
                    !(member instanceof BlockTree) || !((BlockTree) member).isStatic());
        }
        rule(11, tree, "a class's fields", fields <= MOST_FIELDS);
        return super.visitClass(tree, none);
    }

    private boolean isConstant(VariableTree field) {
        Set<Modifier> flags = field.getModifiers().getFlags();
        if (!flags.contains(Modifier.STATIC)) {
            return false;
        }
        rule(5, field, "static fields are final", flags.contains(Modifier.FINAL));
        rule(5, field, "a constant's type", CONSTANTS.contains(field.getType().toString()));
        return true;
    }

    @Override
    public Void visitMethod(MethodTree tree, Void none) {
        MethodTree outer = method;
        boolean outerThrows = methodThrows;
        boolean outerTries = methodTries;
        method = tree;
        methodThrows = false;
        methodTries = false;
        String name = tree.getName().toString();
        Set<Modifier> flags = tree.getModifiers().getFlags();
        rule(1, tree, "no private method is named " + name,
                !flags.contains(Modifier.PRIVATE) || !FACE.contains(name));
        rule(6, tree, "no " + name + " of its own", !OF_OBJECTS.contains(name));
        rule(6, tree, "not synchronized", !flags.contains(Modifier.SYNCHRONIZED));
        rule(11, tree, "a method's parameters", tree.getParameters().size() <= MOST_PARAMETERS);
        rule(11, tree, "a method's lines", lines(tree) <= MOST_LINES);
        super.visitMethod(tree, none);
        rule(6, tree, "a throw and a try in one method", !(methodThrows && methodTries));
        method = outer;
        methodThrows = outerThrows;
        methodTries = outerTries;
        return null;
    }

    @Override
    public Void visitThrow(ThrowTree tree, Void none) {
        methodThrows = true;
        rule(6, tree, "no throw in a constructor",
                method == null || !method.getName().contentEquals("<init>"));
        boolean isNew = tree.getExpression() instanceof NewClassTree;
        rule(6, tree, "throw new", isNew);
        if (isNew) {
            NewClassTree made = (NewClassTree) tree.getExpression();
            String name = simpleName(made.getIdentifier());
            rule(6, tree, "throws " + name, EXCEPTIONS.contains(name));
            rule(6, tree, "a written text", isWrittenText(made.getArguments()));
        }
        return super.visitThrow(tree, none);
    }

    private static boolean isWrittenText(List<? extends ExpressionTree> arguments) {
        return arguments.isEmpty()
                || arguments.size() == 1 && arguments.get(0).getKind() == Tree.Kind.STRING_LITERAL;
    }

    @Override
    public Void visitTry(TryTree tree, Void none) {
        methodTries = true;
        rule(6, tree, "no finally", tree.getFinallyBlock() == null);
        rule(6, tree, "no resources", tree.getResources().isEmpty());
        return super.visitTry(tree, none);
    }

    @Override
    public Void visitCatch(CatchTree tree, Void none) {
        String type = simpleName(tree.getParameter().getType());
        rule(6, tree, "catches " + type, EXCEPTIONS.contains(type));
        String name = tree.getParameter().getName().toString();
        rule(6, tree, "leaves what it caught alone",
                !tree.getBlock().toString().matches("(?s).*\\b" + name + "\\b.*"));
        return super.visitCatch(tree, none);
    }

    @Override
    public Void visitBinary(BinaryTree tree, Void none) {
        boolean joins = tree.getKind() == Tree.Kind.PLUS && (isText(tree.getLeftOperand())
                || isText(tree.getRightOperand()));
        rule(10, tree, "joins no texts by +", !joins);
        return super.visitBinary(tree, none);
    }

    private static boolean isText(Tree tree) {
        return tree.getKind() == Tree.Kind.STRING_LITERAL;
    }

    @Override
    public Void visitLambdaExpression(LambdaExpressionTree tree, Void none) {
        rule(2, tree, "no lambda", false);
        return super.visitLambdaExpression(tree, none);
    }

    @Override
    public Void visitMemberReference(MemberReferenceTree tree, Void none) {
        rule(2, tree, "no method reference", false);
        return super.visitMemberReference(tree, none);
    }

    @Override
    public Void visitSynchronized(SynchronizedTree tree, Void none) {
        rule(6, tree, "no synchronized", false);
        return super.visitSynchronized(tree, none);
    }

    @Override
    public Void visitAssert(AssertTree tree, Void none) {
        rule(6, tree, "no assert", false);
        return super.visitAssert(tree, none);
    }
}
