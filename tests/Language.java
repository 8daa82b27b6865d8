import com.sun.source.tree.AnnotationTree;
import com.sun.source.tree.ArrayAccessTree;
import com.sun.source.tree.AssertTree;
import com.sun.source.tree.AssignmentTree;
import com.sun.source.tree.BinaryTree;
import com.sun.source.tree.BlockTree;
import com.sun.source.tree.ClassTree;
import com.sun.source.tree.CompilationUnitTree;
import com.sun.source.tree.CompoundAssignmentTree;
import com.sun.source.tree.DoWhileLoopTree;
import com.sun.source.tree.EnhancedForLoopTree;
import com.sun.source.tree.ExpressionTree;
import com.sun.source.tree.ForLoopTree;
import com.sun.source.tree.IdentifierTree;
import com.sun.source.tree.IfTree;
import com.sun.source.tree.InstanceOfTree;
import com.sun.source.tree.LambdaExpressionTree;
import com.sun.source.tree.LiteralTree;
import com.sun.source.tree.MemberReferenceTree;
import com.sun.source.tree.MemberSelectTree;
import com.sun.source.tree.MethodInvocationTree;
import com.sun.source.tree.MethodTree;
import com.sun.source.tree.NewArrayTree;
import com.sun.source.tree.NewClassTree;
import com.sun.source.tree.SwitchTree;
import com.sun.source.tree.SynchronizedTree;
import com.sun.source.tree.ThrowTree;
import com.sun.source.tree.Tree;
import com.sun.source.tree.TryTree;
import com.sun.source.tree.TypeCastTree;
import com.sun.source.tree.UnaryTree;
import com.sun.source.tree.VariableTree;
import com.sun.source.tree.WhileLoopTree;
import com.sun.source.util.JavacTask;
import com.sun.source.util.TreePath;
import com.sun.source.util.TreePathScanner;
import com.sun.source.util.TreeScanner;
import com.sun.source.util.Trees;
import java.io.IOException;
import java.net.URI;
import java.util.ArrayList;
import java.util.HashSet;
import java.util.LinkedHashMap;
import java.util.LinkedHashSet;
import java.util.List;
import java.util.Map;
import java.util.Set;
import javax.lang.model.element.Element;
import javax.lang.model.element.ElementKind;
import javax.lang.model.element.Modifier;
import javax.lang.model.element.TypeElement;
import javax.lang.model.element.VariableElement;
import javax.lang.model.type.ArrayType;
import javax.lang.model.type.DeclaredType;
import javax.lang.model.type.TypeKind;
import javax.lang.model.type.TypeMirror;
import javax.tools.JavaFileObject;
import javax.tools.SimpleJavaFileObject;
import javax.tools.ToolProvider;

/**
 * Reads a source by the compiler's own trees and tells what in it is outside LANGUAGE.md, each finding with its rule.
 * Where a rule leaves room that the program does not use (try, recursion, doubles, anonymous classes ...), this is
 * stricter than the rule.
 */
final class Language extends TreePathScanner<Void, Void> {
    private static final int MOST_PARAMETERS = 7;
    private static final int MOST_LINES = 60;
    private static final int MOST_DEPTH = 8;
    private static final int MOST_CLASSES = 12;
    private static final int MOST_FIELDS = 20;

    private static final Set<String> EXCEPTIONS = Set.of("IllegalStateException", "IllegalArgumentException",
            "IndexOutOfBoundsException", "ArithmeticException", "UnsupportedOperationException",
            "NoSuchElementException", "RuntimeException");
    private static final Map<String, Set<String>> LIBRARY = Map.of(
            "String", Set.of("length", "charAt", "isEmpty", "equals", "indexOf", "substring", "toCharArray"),
            "StringBuilder", Set.of("<init>", "append", "charAt", "setCharAt", "setLength", "deleteCharAt", "reverse",
                    "length", "toString"),
            "Integer", Set.of("compare", "max", "min", "bitCount"),
            "Long", Set.of("compare", "max", "min", "bitCount"),
            "Math", Set.of("max", "min", "abs", "floorDiv", "floorMod"),
            "System", Set.of("arraycopy"),
            "Arrays", Set.of("copyOf", "copyOfRange", "fill"),
            "Object", Set.of("<init>"));

    private final List<String> findings = new ArrayList<>();
    private final Set<TypeElement> own = new HashSet<>();
    private final Map<Element, Set<Element>> calls = new LinkedHashMap<>();
    private final Trees trees;
    private final CompilationUnitTree unit;

    private Language(Trees trees, CompilationUnitTree unit) {
        this.trees = trees;
        this.unit = unit;
    }

    static List<String> findings(String name, String source) throws IOException {
        JavaFileObject file = new SimpleJavaFileObject(URI.create("string:///" + name + ".java"), JavaFileObject.Kind.SOURCE) {
            @Override
            public CharSequence getCharContent(boolean ignoreEncodingErrors) {
                return source;
            }
        };
        List<String> errors = new ArrayList<>();
        JavacTask task = (JavacTask) ToolProvider.getSystemJavaCompiler().getTask(null, null,
                found -> errors.add("does not compile: " + found), List.of("--release", "17"), null, List.of(file));
        CompilationUnitTree unit = task.parse().iterator().next();
        task.analyze();
        if (!errors.isEmpty()) {
            return errors;
        }
        Language language = new Language(Trees.instance(task), unit);
        language.look();
        return language.findings;
    }

    private void look() {
        if (!unit.getImports().isEmpty() || unit.getPackage() != null) {
            find(4, "an import or a package line", unit);
        }
        new TreePathScanner<Void, Void>() {
            @Override
            public Void visitClass(ClassTree tree, Void nothing) {
                own.add((TypeElement) trees.getElement(getCurrentPath()));
                return super.visitClass(tree, nothing);
            }
        }.scan(unit, null);
        if (own.size() > MOST_CLASSES + 1) {
            find(11, "classes: " + own.size(), unit);
        }
        scan(unit, null);
        for (Element method : calls.keySet()) {
            depthOf(method, new LinkedHashSet<>());
        }
    }

    private void find(int rule, String what, Tree tree) {
        long line = unit.getLineMap().getLineNumber(Math.max(0, trees.getSourcePositions().getStartPosition(unit, tree)));
        findings.add("rule " + rule + ", line " + line + ": " + what);
    }

    private Element element(Tree tree) {
        return trees.getElement(new TreePath(getCurrentPath(), tree));
    }

    private TypeMirror type(Tree tree) {
        return trees.getTypeMirror(TreePath.getPath(unit, tree));
    }

    private boolean isOwn(Element element) {
        return element != null && own.contains(element);
    }

    /** The method in which the scan is, null in a field's initialiser. */
    private MethodTree method() {
        for (TreePath path = getCurrentPath(); path != null; path = path.getParentPath()) {
            if (path.getLeaf() instanceof MethodTree) {
                return (MethodTree) path.getLeaf();
            }
        }
        return null;
    }

    private boolean isInConstructor() {
        return method() != null && method().getReturnType() == null;
    }

    private boolean isInLoop() {
        for (TreePath path = getCurrentPath(); path != null && path.getLeaf() != method(); path = path.getParentPath()) {
            Tree tree = path.getLeaf();
            if (tree instanceof ForLoopTree || tree instanceof WhileLoopTree || tree instanceof DoWhileLoopTree
                    || tree instanceof EnhancedForLoopTree) {
                return true;
            }
        }
        return false;
    }

    // rules 1, 2, 5 and 11: classes, fields, methods

    @Override
    public Void visitClass(ClassTree tree, Void nothing) {
        Element self = trees.getElement(getCurrentPath());
        Tree parent = getCurrentPath().getParentPath().getLeaf();
        Set<Modifier> modifiers = self.getModifiers();
        if (parent instanceof CompilationUnitTree) {
            lookAtFace(tree, self);
        } else if (!(parent instanceof ClassTree)) {
            find(2, "a class within a method", tree);
        } else if (modifiers.contains(Modifier.PUBLIC) || modifiers.contains(Modifier.PROTECTED)
                || !modifiers.contains(Modifier.STATIC)) {
            find(1, "a class inside that is public, protected or not static", tree);
        }
        long fields = self.getEnclosedElements().stream().filter(Language::isStateful).count();
        if (fields > MOST_FIELDS) {
            find(11, "fields: " + fields, tree);
        }
        for (Tree member : tree.getMembers()) {
            if (member instanceof BlockTree) {
                find(5, "an initialiser block", member);
            }
        }
        return super.visitClass(tree, nothing);
    }

    private static boolean isStateful(Element member) {
        return member.getKind() == ElementKind.FIELD && !member.getModifiers().contains(Modifier.STATIC);
    }

    private void lookAtFace(ClassTree tree, Element self) {
        if (!self.getModifiers().containsAll(Set.of(Modifier.PUBLIC, Modifier.FINAL))) {
            find(1, "a class that is not public and final", tree);
        }
        Set<String> shown = new HashSet<>();
        for (Element member : self.getEnclosedElements()) {
            Set<Modifier> modifiers = member.getModifiers();
            if (modifiers.contains(Modifier.PUBLIC)) {
                shown.add(member.getSimpleName().toString());
            } else if (!modifiers.contains(Modifier.PRIVATE) && !(member instanceof TypeElement)) {
                find(1, "a member that is neither public nor private: " + member, tree);
            }
        }
        for (Element member : self.getEnclosedElements()) {
            if (member.getKind() == ElementKind.METHOD && member.getModifiers().contains(Modifier.PRIVATE)
                    && shown.contains(member.getSimpleName().toString())) {
                find(1, "a private method named as a public one: " + member, tree);
            }
        }
    }

    @Override
    public Void visitVariable(VariableTree tree, Void nothing) {
        VariableElement variable = (VariableElement) trees.getElement(getCurrentPath());
        if (!isAllowed(variable.asType())) {
            find(3, "a variable of " + variable.asType(), tree);
        }
        if (variable.getKind() == ElementKind.FIELD && variable.getModifiers().contains(Modifier.STATIC)) {
            boolean isArray = variable.asType() instanceof ArrayType;
            boolean isWrittenOut = tree.getInitializer() instanceof NewArrayTree
                    && ((NewArrayTree) tree.getInitializer()).getInitializers() != null;
            if (!variable.getModifiers().contains(Modifier.FINAL)
                    || (isArray ? !isWrittenOut : variable.getConstantValue() == null)) {
                find(5, "a static field that is no constant: " + variable, tree);
            }
        }
        return super.visitVariable(tree, nothing);
    }

    private boolean isAllowed(TypeMirror type) {
        if (type instanceof ArrayType) {
            TypeMirror part = ((ArrayType) type).getComponentType();
            if (part instanceof ArrayType) {
                TypeMirror inner = ((ArrayType) part).getComponentType();
                return inner.getKind().isPrimitive() && isAllowed(inner);
            }
            return part.getKind().isPrimitive() ? isAllowed(part) : isOwn(((DeclaredType) part).asElement());
        }
        if (type.getKind() == TypeKind.FLOAT || type.getKind() == TypeKind.DOUBLE) {
            return false;
        }
        return type.getKind().isPrimitive() || type.getKind() == TypeKind.VOID || isOwn(((DeclaredType) type).asElement())
                || type.toString().equals("java.lang.String") || type.toString().equals("java.lang.StringBuilder");
    }

    @Override
    public Void visitMethod(MethodTree tree, Void nothing) {
        Element self = trees.getElement(getCurrentPath());
        calls.put(self, new LinkedHashSet<>());
        if (tree.getReturnType() != null && !isAllowed(type(tree.getReturnType()))) {
            find(3, "an answer of " + tree.getReturnType(), tree);
        }
        if (Set.of("equals", "hashCode", "toString", "compareTo").contains(tree.getName().toString())) {
            find(6, "a method of its own named " + tree.getName(), tree);
        }
        if (tree.getParameters().size() > MOST_PARAMETERS) {
            find(11, "parameters: " + tree.getParameters().size(), tree);
        }
        long begin = trees.getSourcePositions().getStartPosition(unit, tree);
        long end = trees.getSourcePositions().getEndPosition(unit, tree);
        if (end > begin && unit.getLineMap().getLineNumber(end) - unit.getLineMap().getLineNumber(begin) >= MOST_LINES) {
            find(11, "a long method: " + tree.getName(), tree);
        }
        return super.visitMethod(tree, nothing);
    }

    // rules 4, 8, 11 and 12: calls and what is made

    private void lookAtCall(Element called, Tree tree) {
        TypeElement holder = (TypeElement) called.getEnclosingElement();
        if (isOwn(holder)) {
            if (method() != null) {
                calls.get(trees.getElement(TreePath.getPath(unit, method()))).add(called);
            }
            return;
        }
        Set<String> names = LIBRARY.getOrDefault(holder.getSimpleName().toString(), Set.of());
        boolean isThrown = getCurrentPath().getParentPath().getLeaf() instanceof ThrowTree;
        if (!isThrown && !names.contains(called.getSimpleName().toString())) {
            find(4, "a call of " + holder + "." + called, tree);
        }
    }

    /** How many calls stand open below and with this one; what comes back to a call that stands open is recursion. */
    private int depthOf(Element method, Set<Element> open) {
        if (!open.add(method)) {
            findings.add("rule 8: recursion by " + method);
            return 0;
        }
        int below = 0;
        for (Element called : calls.getOrDefault(method, Set.of())) {
            below = Math.max(below, depthOf(called, open));
        }
        open.remove(method);
        if (below + 1 > MOST_DEPTH) {
            findings.add("rule 11: calls below " + method + " stand deeper than " + MOST_DEPTH);
        }
        return below + 1;
    }

    @Override
    public Void visitMethodInvocation(MethodInvocationTree tree, Void nothing) {
        Element called = element(tree.getMethodSelect());
        if (called != null && called.getKind() == ElementKind.METHOD) {
            lookAtCall(called, tree);
        }
        return super.visitMethodInvocation(tree, nothing);
    }

    @Override
    public Void visitNewClass(NewClassTree tree, Void nothing) {
        Element made = trees.getElement(getCurrentPath());
        lookAtCall(made, tree);
        boolean isThrown = getCurrentPath().getParentPath().getLeaf() instanceof ThrowTree;
        boolean isText = tree.getIdentifier().toString().equals("StringBuilder");
        if (method() != null && !isInConstructor() && !isThrown && (!isText || isInLoop())) {
            find(12, "an object made by " + method().getName(), tree);
        }
        return super.visitNewClass(tree, nothing);
    }

    @Override
    public Void visitNewArray(NewArrayTree tree, Void nothing) {
        if (method() != null && !isInConstructor()) {
            find(12, "a row made by " + method().getName(), tree);
        }
        for (ExpressionTree length : tree.getDimensions()) {
            if (!isConstant(length)) {
                find(7, "a length that is no constant: " + length, tree);
            }
        }
        return super.visitNewArray(tree, nothing);
    }

    /** Made of constants alone, such as MOST + 1. */
    private boolean isConstant(ExpressionTree tree) {
        if (tree instanceof LiteralTree) {
            return true;
        }
        if (tree instanceof BinaryTree) {
            return isConstant(((BinaryTree) tree).getLeftOperand()) && isConstant(((BinaryTree) tree).getRightOperand());
        }
        Element named = trees.getElement(TreePath.getPath(unit, tree));
        return named instanceof VariableElement && ((VariableElement) named).getConstantValue() != null;
    }

    @Override
    public Void visitIdentifier(IdentifierTree tree, Void nothing) {
        if (tree.getName().contentEquals("this") && isInConstructor()
                && !(getCurrentPath().getParentPath().getLeaf() instanceof MemberSelectTree)) {
            find(12, "a constructor that hands out its object", tree);
        }
        return super.visitIdentifier(tree, nothing);
    }

    // rules 2, 6 and 10: what is not written

    @Override
    public Void visitLambdaExpression(LambdaExpressionTree tree, Void nothing) {
        find(2, "a lambda", tree);
        return super.visitLambdaExpression(tree, nothing);
    }

    @Override
    public Void visitMemberReference(MemberReferenceTree tree, Void nothing) {
        find(2, "a method reference", tree);
        return super.visitMemberReference(tree, nothing);
    }

    @Override
    public Void visitAnnotation(AnnotationTree tree, Void nothing) {
        find(4, "an annotation", tree);
        return super.visitAnnotation(tree, nothing);
    }

    @Override
    public Void visitTry(TryTree tree, Void nothing) {
        find(6, "a try", tree);
        return super.visitTry(tree, nothing);
    }

    @Override
    public Void visitSynchronized(SynchronizedTree tree, Void nothing) {
        find(6, "synchronized", tree);
        return super.visitSynchronized(tree, nothing);
    }

    @Override
    public Void visitAssert(AssertTree tree, Void nothing) {
        find(6, "assert", tree);
        return super.visitAssert(tree, nothing);
    }

    @Override
    public Void visitInstanceOf(InstanceOfTree tree, Void nothing) {
        find(6, "instanceof", tree);
        return super.visitInstanceOf(tree, nothing);
    }

    @Override
    public Void visitThrow(ThrowTree tree, Void nothing) {
        boolean isPlain = false;
        if (tree.getExpression() instanceof NewClassTree) {
            NewClassTree made = (NewClassTree) tree.getExpression();
            isPlain = EXCEPTIONS.contains(made.getIdentifier().toString()) && made.getClassBody() == null
                    && made.getArguments().stream().allMatch(text -> text instanceof LiteralTree);
        }
        if (!isPlain || isInConstructor()) {
            find(6, "throw of another thing, or in a constructor", tree);
        }
        return super.visitThrow(tree, nothing);
    }

    @Override
    public Void visitTypeCast(TypeCastTree tree, Void nothing) {
        if (!type(tree.getType()).getKind().isPrimitive()) {
            find(6, "a cast of a reference", tree);
        }
        return super.visitTypeCast(tree, nothing);
    }

    @Override
    public Void visitSwitch(SwitchTree tree, Void nothing) {
        if (isText(tree.getExpression())) {
            find(10, "a switch on a text", tree);
        }
        return super.visitSwitch(tree, nothing);
    }

    @Override
    public Void visitLiteral(LiteralTree tree, Void nothing) {
        if (tree.getValue() instanceof String || tree.getValue() instanceof Character) {
            boolean isPlain = tree.getValue().toString().chars().allMatch(sign -> sign >= 1 && sign <= 127);
            if (!isPlain) {
                find(4, "a sign that is not 1 to 127", tree);
            }
        }
        return super.visitLiteral(tree, nothing);
    }

    private boolean isText(Tree tree) {
        TypeMirror type = type(tree);
        return type != null && (type.toString().equals("java.lang.String") || type.toString().equals("java.lang.Integer"));
    }

    // rule 7: divisors

    @Override
    public Void visitBinary(BinaryTree tree, Void nothing) {
        switch (tree.getKind()) {
            case DIVIDE, REMAINDER -> lookAtDivisor(tree.getRightOperand());
            case PLUS -> {
                if (isText(tree)) {
                    find(10, "texts joined by +", tree);
                }
            }
            case EQUAL_TO, NOT_EQUAL_TO -> {
                if (isText(tree.getLeftOperand()) && isText(tree.getRightOperand())) {
                    find(6, "texts compared by ==", tree);
                }
            }
            default -> { }
        }
        return super.visitBinary(tree, nothing);
    }

    @Override
    public Void visitCompoundAssignment(CompoundAssignmentTree tree, Void nothing) {
        if (tree.getKind() == Tree.Kind.DIVIDE_ASSIGNMENT || tree.getKind() == Tree.Kind.REMAINDER_ASSIGNMENT) {
            lookAtDivisor(tree.getExpression());
        }
        if (isText(tree.getVariable())) {
            find(10, "texts joined by +=", tree);
        }
        lookAtRowWrittenTo(tree.getVariable());
        return super.visitCompoundAssignment(tree, nothing);
    }

    @Override
    public Void visitAssignment(AssignmentTree tree, Void nothing) {
        lookAtRowWrittenTo(tree.getVariable());
        return super.visitAssignment(tree, nothing);
    }

    @Override
    public Void visitUnary(UnaryTree tree, Void nothing) {
        if (isStep(tree)) {
            lookAtRowWrittenTo(tree.getExpression());
        }
        return super.visitUnary(tree, nothing);
    }

    private static boolean isStep(UnaryTree tree) {
        return tree.getKind().name().endsWith("CREMENT");
    }

    private void lookAtRowWrittenTo(ExpressionTree target) {
        if (target instanceof ArrayAccessTree) {
            Element row = trees.getElement(TreePath.getPath(unit, ((ArrayAccessTree) target).getExpression()));
            if (row != null && row.getKind() == ElementKind.FIELD && row.getModifiers().contains(Modifier.STATIC)) {
                find(5, "a static row that is changed", target);
            }
        }
    }

    /** A divisor is a literal other than 0, or a name that an if of the same method compares. */
    private void lookAtDivisor(ExpressionTree divisor) {
        if (divisor instanceof LiteralTree && ((LiteralTree) divisor).getValue() instanceof Number
                && ((Number) ((LiteralTree) divisor).getValue()).longValue() != 0) {
            return;
        }
        Set<String> tested = new HashSet<>();
        new TreeScanner<Void, Void>() {
            @Override
            public Void visitIf(IfTree tree, Void nothing) {
                tested.addAll(comparedIn(tree.getCondition()));
                return super.visitIf(tree, nothing);
            }
        }.scan(method(), null);
        if (!tested.contains(divisor.toString())) {
            find(7, "a divisor that is not tested: " + divisor, divisor);
        }
    }

    /** What stands on either side of a comparison: names such as at, at + 1 or row.length, and the names in them. */
    private static Set<String> comparedIn(Tree condition) {
        Set<String> names = new HashSet<>();
        new TreeScanner<Void, Boolean>() {
            @Override
            public Void visitBinary(BinaryTree tree, Boolean isCompared) {
                boolean compares = switch (tree.getKind()) {
                    case LESS_THAN, LESS_THAN_EQUAL, GREATER_THAN, GREATER_THAN_EQUAL, EQUAL_TO, NOT_EQUAL_TO -> true;
                    default -> isCompared;
                };
                return super.visitBinary(tree, compares);
            }

            @Override
            public Void visitIdentifier(IdentifierTree tree, Boolean isCompared) {
                if (isCompared) {
                    names.add(tree.getName().toString());
                }
                return null;
            }

            @Override
            public Void visitMethodInvocation(MethodInvocationTree tree, Boolean isCompared) {
                return null;
            }
        }.scan(condition, false);
        return names;
    }

    // rule 9: loops

    @Override
    public Void visitForLoop(ForLoopTree tree, Void nothing) {
        lookAtLoop(tree, tree.getCondition(), tree.getUpdate());
        return super.visitForLoop(tree, nothing);
    }

    @Override
    public Void visitWhileLoop(WhileLoopTree tree, Void nothing) {
        lookAtLoop(tree, tree.getCondition(), List.of(tree.getStatement()));
        return super.visitWhileLoop(tree, nothing);
    }

    @Override
    public Void visitDoWhileLoop(DoWhileLoopTree tree, Void nothing) {
        lookAtLoop(tree, tree.getCondition(), List.of(tree.getStatement()));
        return super.visitDoWhileLoop(tree, nothing);
    }

    /** Something that the condition compares is counted on in each round. */
    private void lookAtLoop(Tree loop, Tree condition, Iterable<? extends Tree> steps) {
        Set<String> counted = new HashSet<>();
        new TreeScanner<Void, Void>() {
            @Override
            public Void visitUnary(UnaryTree tree, Void nothing) {
                if (isStep(tree)) {
                    counted.add(tree.getExpression().toString());
                }
                return super.visitUnary(tree, nothing);
            }

            @Override
            public Void visitCompoundAssignment(CompoundAssignmentTree tree, Void nothing) {
                counted.add(tree.getVariable().toString());
                return super.visitCompoundAssignment(tree, nothing);
            }
        }.scan(steps, null);
        counted.retainAll(comparedIn(condition));
        if (condition == null || counted.isEmpty()) {
            find(9, "a loop whose end cannot be seen", loop);
        }
    }
}
