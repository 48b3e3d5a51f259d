import com.sun.source.tree.*;
import java.util.Map;
import java.util.Set;
import java.util.TreeMap;
import java.util.TreeSet;

/**
 * LANGUAGE.md's rules 3, 4, 7, 8, 9, 12 and 13, as far as the source's own tree shows them. Where a
 * rule leaves more than the class needs, the test asks what the class does: who needs more looks the
 * rule up again.
 */
public final class LanguageUseTest extends SourceRules {
    private static final Set<String> IMPORTS = Set.of("java.util.ArrayList", "java.util.List",
            "java.util.Iterator", "java.util.Arrays", "java.util.NoSuchElementException");
    private static final Set<String> LIBRARY_TYPES = Set.of("String", "StringBuilder", "Integer",
            "ArrayList", "List", "Iterator", "Iterable", "Comparable");
    /** Of Integer, Long and Math any function that does not throw; of the others these alone. */
    private static final Set<String> NUMBER_LIBRARY = Set.of("Integer", "Long", "Math");
    private static final Set<String> OTHER_STATICS = Set.of("System.arraycopy", "Arrays.copyOf",
            "Arrays.copyOfRange", "Arrays.fill", "List.of");
    private static final Set<Tree.Kind> BOUNDS = Set.of(Tree.Kind.LESS_THAN, Tree.Kind.LESS_THAN_EQUAL);
    private static final Set<Tree.Kind> DIVISIONS = Set.of(Tree.Kind.DIVIDE, Tree.Kind.REMAINDER,
            Tree.Kind.DIVIDE_ASSIGNMENT, Tree.Kind.REMAINDER_ASSIGNMENT);
    /** What a method that comes back to itself carries: the LEVEL, which falls. */
    private static final String DEPTH = "k";

    private final Set<String> ownTypes = new TreeSet<>();
    private final Map<String, Set<String>> callsOf = new TreeMap<>();
    private final Map<String, MethodTree> methods = new TreeMap<>();
    private MethodTree method;
    private boolean inThrow;

    public static void main(String[] args) throws java.io.IOException {
        LanguageUseTest test = new LanguageUseTest();
        test.scanFile(args[0]);
        test.recursionCarriesItsDepth();
        Bench.end();
    }

    @Override
    public Void visitCompilationUnit(CompilationUnitTree tree, Void none) {
        for (Tree type : tree.getTypeDecls()) {
            collectTypes(type);
        }
        return super.visitCompilationUnit(tree, none);
    }

    private void collectTypes(Tree type) {
        if (type instanceof ClassTree) {
            ownTypes.add(((ClassTree) type).getSimpleName().toString());
            ((ClassTree) type).getMembers().forEach(this::collectTypes);
        }
    }

    @Override
    public Void visitImport(ImportTree tree, Void none) {
        String name = tree.getQualifiedIdentifier().toString();
        rule(4, tree, "import of " + name, !tree.isStatic() && IMPORTS.contains(name));
        return null;
    }

    @Override
    public Void visitMethod(MethodTree tree, Void none) {
        method = tree;
        String name = tree.getName().toString();
        methods.put(name, tree);
        callsOf.putIfAbsent(name, new TreeSet<>());
        rule(3, tree, "what " + name + " answers",
                tree.getReturnType() == null || isAllowedType(tree.getReturnType()));
        super.visitMethod(tree, none);
        method = null;
        return null;
    }

    @Override
    public Void visitVariable(VariableTree tree, Void none) {
        rule(3, tree, "the type of " + tree.getName(), isAllowedType(tree.getType()));
        return super.visitVariable(tree, none);
    }

    /** What is caught is an exception, of which LanguageTest has the rule. */
    @Override
    public Void visitCatch(CatchTree tree, Void none) {
        return scan(tree.getBlock(), none);
    }

    private boolean isAllowedType(Tree type) {
        if (type instanceof ArrayTypeTree) {
            return isAllowedElement(((ArrayTypeTree) type).getType());
        }
        if (type instanceof ParameterizedTypeTree) {
            ParameterizedTypeTree generic = (ParameterizedTypeTree) type;
            return isAllowedType(generic.getType())
                    && generic.getTypeArguments().stream().allMatch(this::isAllowedType);
        }
        return type instanceof PrimitiveTypeTree
                || type instanceof IdentifierTree && isAllowedName(type.toString());
    }

    private boolean isAllowedElement(Tree type) {
        if (type instanceof ArrayTypeTree) {
            return ((ArrayTypeTree) type).getType() instanceof PrimitiveTypeTree;
        }
        return type instanceof PrimitiveTypeTree || ownTypes.contains(type.toString());
    }

    private boolean isAllowedName(String name) {
        return ownTypes.contains(name) || LIBRARY_TYPES.contains(name);
    }

    @Override
    public Void visitMethodInvocation(MethodInvocationTree tree, Void none) {
        String called = tree.getMethodSelect().toString();
        if (Character.isUpperCase(called.charAt(0)) || called.startsWith("java")) {
            rule(4, tree, "no " + called, isAllowedStatic(called));
        }
        if (method != null) {
            callsOf.get(method.getName().toString()).add(simpleName(tree.getMethodSelect()));
        }
        return super.visitMethodInvocation(tree, none);
    }

    private boolean isAllowedStatic(String called) {
        String type = called.substring(0, called.indexOf('.'));
        return ownTypes.contains(type) || OTHER_STATICS.contains(called)
                || NUMBER_LIBRARY.contains(type) && !called.endsWith("Exact");
    }

    @Override
    public Void visitBinary(BinaryTree tree, Void none) {
        looksAtDivisor(tree, tree.getRightOperand());
        return super.visitBinary(tree, none);
    }

    @Override
    public Void visitCompoundAssignment(CompoundAssignmentTree tree, Void none) {
        looksAtDivisor(tree, tree.getExpression());
        return super.visitCompoundAssignment(tree, none);
    }

    private void looksAtDivisor(Tree tree, ExpressionTree divisor) {
        if (DIVISIONS.contains(tree.getKind())) {
            rule(7, tree, "divides by a written number", divisor.toString().matches("[1-9]\\d*"));
        }
    }

    @Override
    public Void visitTypeCast(TypeCastTree tree, Void none) {
        rule(7, tree, "casts numbers alone", tree.getType() instanceof PrimitiveTypeTree);
        return super.visitTypeCast(tree, none);
    }

    private void recursionCarriesItsDepth() {
        for (Map.Entry<String, MethodTree> entry : methods.entrySet()) {
            if (reachedFrom(entry.getKey()).contains(entry.getKey())) {
                rule(8, entry.getValue(), entry.getKey() + " carries its depth",
                        entry.getValue().getParameters().stream().anyMatch(
                                parameter -> parameter.getName().contentEquals(DEPTH)));
            }
        }
    }

    private Set<String> reachedFrom(String name) {
        Set<String> reached = new TreeSet<>(callsOf.get(name));
        int before = -1;
        while (reached.size() > before) {
            before = reached.size();
            for (String one : reached.toArray(new String[0])) {
                reached.addAll(callsOf.getOrDefault(one, Set.of()));
            }
        }
        return reached;
    }

    @Override
    public Void visitForLoop(ForLoopTree tree, Void none) {
        rule(9, tree, "a counter against a bound", counts(tree));
        return super.visitForLoop(tree, none);
    }

    private static boolean counts(ForLoopTree tree) {
        if (tree.getCondition() == null || !BOUNDS.contains(tree.getCondition().getKind())
                || tree.getUpdate().size() != 1) {
            return false;
        }
        String counter = ((BinaryTree) tree.getCondition()).getLeftOperand().toString();
        return tree.getUpdate().get(0).getExpression().toString().equals(counter + "++")
                && !tree.getStatement().toString().matches(
                        "(?s).*\\b" + counter + "\\s*([-+*/%&|^]|<<|>>|>>>)?=[^=].*");
    }

    @Override
    public Void visitWhileLoop(WhileLoopTree tree, Void none) {
        rule(9, tree, "a counter against a bound", false);
        return super.visitWhileLoop(tree, none);
    }

    @Override
    public Void visitDoWhileLoop(DoWhileLoopTree tree, Void none) {
        rule(9, tree, "a counter against a bound", false);
        return super.visitDoWhileLoop(tree, none);
    }

    @Override
    public Void visitThrow(ThrowTree tree, Void none) {
        inThrow = true;
        super.visitThrow(tree, none);
        inThrow = false;
        return null;
    }

    @Override
    public Void visitNewClass(NewClassTree tree, Void none) {
        String name = tree.getIdentifier().toString();
        rule(3, tree, "an own object", inThrow || isAllowedName(name));
        rule(12, tree, "no call makes one but to throw it", inThrow || !isInCall());
        return super.visitNewClass(tree, none);
    }

    @Override
    public Void visitNewArray(NewArrayTree tree, Void none) {
        rule(12, tree, "no call makes an array", !isInCall());
        return super.visitNewArray(tree, none);
    }

    private boolean isInCall() {
        return method != null && !method.getName().contentEquals("<init>");
    }

    @Override
    public Void visitIdentifier(IdentifierTree tree, Void none) {
        String name = tree.getName().toString();
        rule(13, tree, "no " + name, !Set.of("Thread", "Runtime", "Random", "Process").contains(name));
        return null;
    }
}
