import com.sun.source.tree.AssertTree;
import com.sun.source.tree.BinaryTree;
import com.sun.source.tree.BlockTree;
import com.sun.source.tree.ClassTree;
import com.sun.source.tree.CompilationUnitTree;
import com.sun.source.tree.CompoundAssignmentTree;
import com.sun.source.tree.ConditionalExpressionTree;
import com.sun.source.tree.DoWhileLoopTree;
import com.sun.source.tree.ExpressionTree;
import com.sun.source.tree.ForLoopTree;
import com.sun.source.tree.IdentifierTree;
import com.sun.source.tree.ImportTree;
import com.sun.source.tree.InstanceOfTree;
import com.sun.source.tree.LambdaExpressionTree;
import com.sun.source.tree.LiteralTree;
import com.sun.source.tree.MemberReferenceTree;
import com.sun.source.tree.MemberSelectTree;
import com.sun.source.tree.MethodInvocationTree;
import com.sun.source.tree.MethodTree;
import com.sun.source.tree.NewArrayTree;
import com.sun.source.tree.NewClassTree;
import com.sun.source.tree.ParenthesizedTree;
import com.sun.source.tree.SwitchTree;
import com.sun.source.tree.SynchronizedTree;
import com.sun.source.tree.ThrowTree;
import com.sun.source.tree.Tree;
import com.sun.source.tree.TryTree;
import com.sun.source.tree.TypeCastTree;
import com.sun.source.tree.VariableTree;
import com.sun.source.tree.WhileLoopTree;
import com.sun.source.util.JavacTask;
import com.sun.source.util.TreePath;
import com.sun.source.util.TreePathScanner;
import com.sun.source.util.Trees;
import java.io.IOException;
import java.net.URI;
import java.util.ArrayList;
import java.util.EnumSet;
import java.util.List;
import java.util.Map;
import java.util.Set;
import java.util.TreeMap;
import java.util.TreeSet;
import javax.lang.model.element.Element;
import javax.lang.model.element.ElementKind;
import javax.lang.model.element.ExecutableElement;
import javax.lang.model.element.Modifier;
import javax.lang.model.element.VariableElement;
import javax.lang.model.type.ArrayType;
import javax.lang.model.type.TypeKind;
import javax.lang.model.type.TypeMirror;
import javax.tools.JavaFileObject;
import javax.tools.SimpleJavaFileObject;
import javax.tools.ToolProvider;

/**
 * Looks through a program by the compiler's tree of it for what LANGUAGE.md rules out. It is narrower than that page
 * where the class needs less: no list, no text, no try, no cast but of numbers, and no object that a call makes beside
 * an exception.
 */
final class LanguageRules extends TreePathScanner<Void, Void> {

    private static final int MOST_PARAMETERS = 7;
    private static final int MOST_LINES = 60;
    private static final int MOST_FIELDS = 20;
    private static final int MOST_CLASSES = 12;
    private static final int DEEPEST_CALLS = 8;

    private static final Set<String> LIBRARY = Set.of("Arrays.fill", "Arrays.copyOf", "Arrays.copyOfRange",
            "System.arraycopy", "Math.max", "Math.min", "Math.abs", "Math.floorDiv", "Math.floorMod");
    private static final Set<String> EXCEPTIONS = Set.of("IllegalStateException", "IllegalArgumentException",
            "IndexOutOfBoundsException");
    private static final Set<String> NAMES_OF_OBJECTS = Set.of("equals", "hashCode", "toString");
    private static final Set<TypeKind> NUMBERS = EnumSet.of(TypeKind.INT, TypeKind.LONG, TypeKind.SHORT, TypeKind.BYTE,
            TypeKind.CHAR, TypeKind.BOOLEAN);
    private static final Set<Tree.Kind> COMPARISONS = EnumSet.of(Tree.Kind.LESS_THAN, Tree.Kind.LESS_THAN_EQUAL,
            Tree.Kind.GREATER_THAN, Tree.Kind.GREATER_THAN_EQUAL);

    private final Trees trees;
    private final CompilationUnitTree unit;
    private final CallGraph graph = new CallGraph();
    private final Map<String, MethodTree> methods = new TreeMap<>();
    private final Set<String> publicNames = new TreeSet<>();
    private final List<String> faults = new ArrayList<>();
    private int classes = 0;
    private MethodTree open = null;

    private LanguageRules(Trees trees, CompilationUnitTree unit) {
        this.trees = trees;
        this.unit = unit;
    }

    /** What the text does against the rules, each with the rule and the line; empty if it keeps to them. */
    static List<String> faultsOf(String text) throws IOException {
        JavaFileObject source = new SimpleJavaFileObject(URI.create("text:///NumeralBabel.java"),
                JavaFileObject.Kind.SOURCE) {
            @Override
            public CharSequence getCharContent(boolean ignoreErrors) {
                return text;
            }
        };
        StringBuilder errors = new StringBuilder();
        JavacTask task = (JavacTask) ToolProvider.getSystemJavaCompiler().getTask(null, null,
                told -> errors.append(told), List.of("--release", "17"), null, List.of(source));
        CompilationUnitTree unit = task.parse().iterator().next();
        task.analyze();
        if (errors.length() != 0) {
            return List.of("it does not compile: " + errors);
        }
        LanguageRules rules = new LanguageRules(Trees.instance(task), unit);
        rules.readSigns(text);
        rules.scan(unit, null);
        rules.judgeWhole();
        return rules.faults;
    }

    private void fault(int rule, Tree tree, String what) {
        long start = trees.getSourcePositions().getStartPosition(unit, tree);
        faults.add("rule " + rule + ", line " + unit.getLineMap().getLineNumber(start) + ": " + what);
    }

    private void need(boolean held, int rule, Tree tree, String what) {
        if (!held) {
            fault(rule, tree, what);
        }
    }

    // ---- the whole text

    private void readSigns(String text) {
        for (int i = 0; i < text.length(); i++) {
            if (text.charAt(i) > 126) {
                faults.add("rule 4: the sign " + (int) text.charAt(i) + " at " + i);
            }
        }
    }

    private void judgeWhole() {
        need(unit.getPackage() == null, 1, unit, "a package");
        need(unit.getTypeDecls().size() == 1, 1, unit, "classes beside the public one");
        need(classes <= MOST_CLASSES, 11, unit, classes + " classes");
        for (MethodTree method : methods.values()) {
            boolean hidden = method.getModifiers().getFlags().contains(Modifier.PRIVATE);
            need(!hidden || !publicNames.contains(method.getName().toString()), 1, method, "named as a public one");
        }
        for (Set<String> circle : graph.recursions()) {
            for (String name : circle) {
                judgeRecursion(methods.get(name));
            }
        }
        int depth = graph.depth();
        need(depth <= DEEPEST_CALLS, 11, unit, "calls " + depth + " deep");
    }

    private void judgeRecursion(MethodTree method) {
        boolean carried = false;
        for (VariableTree parameter : method.getParameters()) {
            carried |= parameter.getName().contentEquals("depth");
        }
        need(carried, 8, method, method.getName() + " calls itself again without a depth");
        need(method.getModifiers().getFlags().contains(Modifier.PRIVATE), 8, method, "a recursion that is not private");
    }

    @Override
    public Void visitImport(ImportTree tree, Void none) {
        need(tree.getQualifiedIdentifier().toString().equals("java.util.Arrays"), 4, tree, "import of " + tree);
        return null;
    }

    // ---- classes, methods, fields

    @Override
    public Void visitClass(ClassTree tree, Void none) {
        classes++;
        Set<Modifier> flags = tree.getModifiers().getFlags();
        boolean outermost = getCurrentPath().getParentPath().getLeaf() instanceof CompilationUnitTree;
        need(tree.getKind() == Tree.Kind.CLASS && tree.getExtendsClause() == null, 2, tree, "not a plain class");
        if (outermost) {
            need(flags.contains(Modifier.PUBLIC) && flags.contains(Modifier.FINAL), 1, tree, "not public and final");
        } else {
            boolean seen = flags.contains(Modifier.PUBLIC) || flags.contains(Modifier.PROTECTED);
            need(flags.contains(Modifier.STATIC) && !seen, 1, tree, "an inner class, or one that is seen");
        }
        judgeMembers(tree, outermost);
        return super.visitClass(tree, none);
    }

    private void judgeMembers(ClassTree tree, boolean outermost) {
        int fields = 0;
        for (Tree member : tree.getMembers()) {
            if (member instanceof VariableTree field) {
                fields += field.getModifiers().getFlags().contains(Modifier.STATIC) ? 0 : 1;
                boolean hidden = field.getModifiers().getFlags().contains(Modifier.PRIVATE);
                need(hidden || !outermost, 1, field, "a field that is seen");
            } else if (member instanceof MethodTree method && outermost) {
                Set<Modifier> flags = method.getModifiers().getFlags();
                need(flags.contains(Modifier.PRIVATE) || flags.contains(Modifier.PUBLIC), 1, method, "half seen");
            }
        }
        need(fields <= MOST_FIELDS, 11, tree, fields + " fields");
    }

    @Override
    public Void visitMethod(MethodTree tree, Void none) {
        need(tree.getParameters().size() <= MOST_PARAMETERS, 11, tree, "too many parameters");
        need(lines(tree) <= MOST_LINES, 11, tree, lines(tree) + " lines");
        need(!NAMES_OF_OBJECTS.contains(tree.getName().toString()), 6, tree, "it says what objects say by themselves");
        Element element = trees.getElement(getCurrentPath());
        if (element.getModifiers().contains(Modifier.PUBLIC) && !isConstructor(tree)) {
            publicNames.add(tree.getName().toString());
        }
        methods.put(described(element), tree);
        graph.addMethod(described(element));
        if (tree.getReturnType() != null && element instanceof ExecutableElement method) {
            need(method.getReturnType().getKind() == TypeKind.VOID || isAllowed(method.getReturnType()), 3, tree,
                    "returns " + method.getReturnType());
        }
        open = tree;
        super.visitMethod(tree, none);
        open = null;
        return null;
    }

    private long lines(Tree tree) {
        long start = trees.getSourcePositions().getStartPosition(unit, tree);
        long end = trees.getSourcePositions().getEndPosition(unit, tree);
        return unit.getLineMap().getLineNumber(end) - unit.getLineMap().getLineNumber(start) + 1;
    }

    private static boolean isConstructor(MethodTree tree) {
        return tree.getReturnType() == null;
    }

    private static String described(Element element) {
        return element.getEnclosingElement().getSimpleName() + "." + element;
    }

    @Override
    public Void visitVariable(VariableTree tree, Void none) {
        Element element = trees.getElement(getCurrentPath());
        need(isAllowed(element.asType()), 3, tree, "the type " + element.asType());
        if (element.getKind() == ElementKind.FIELD && element.getModifiers().contains(Modifier.STATIC)) {
            boolean constant = element instanceof VariableElement field && field.getConstantValue() != null;
            need(constant, 5, tree, "a static field that is no constant");
        }
        return super.visitVariable(tree, none);
    }

    @Override
    public Void visitBlock(BlockTree tree, Void none) {
        need(!tree.isStatic(), 5, tree, "a static block");
        return super.visitBlock(tree, none);
    }

    private boolean isAllowed(TypeMirror type) {
        if (type.getKind() == TypeKind.ARRAY) {
            TypeMirror element = ((ArrayType) type).getComponentType();
            return NUMBERS.contains(element.getKind()) || isOwn(element);
        }
        return NUMBERS.contains(type.getKind()) || isOwn(type);
    }

    private static boolean isOwn(TypeMirror type) {
        return type.getKind() == TypeKind.DECLARED && type.toString().startsWith("NumeralBabel");
    }

    private static boolean isOwn(Element element) {
        return isOwn(element.getEnclosingElement().asType());
    }

    // ---- what is called and made

    @Override
    public Void visitMethodInvocation(MethodInvocationTree tree, Void none) {
        Element element = trees.getElement(new TreePath(getCurrentPath(), tree.getMethodSelect()));
        if (element.getKind() != ElementKind.CONSTRUCTOR) {
            if (isOwn(element)) {
                addCall(element);
            } else {
                String name = element.getEnclosingElement().getSimpleName() + "." + element.getSimpleName();
                need(LIBRARY.contains(name), 4, tree, name);
            }
        }
        return super.visitMethodInvocation(tree, none);
    }

    private void addCall(Element called) {
        if (open != null) {
            graph.addCall(described(trees.getElement(pathOf(open))), described(called));
        }
    }

    private TreePath pathOf(Tree tree) {
        return trees.getPath(unit, tree);
    }

    @Override
    public Void visitNewClass(NewClassTree tree, Void none) {
        need(tree.getClassBody() == null, 2, tree, "a class without a name");
        Element made = trees.getElement(getCurrentPath());
        if (isOwn(made)) {
            need(open == null || isConstructor(open), 12, tree, "an object that a call makes");
        } else {
            boolean thrown = getCurrentPath().getParentPath().getLeaf() instanceof ThrowTree;
            need(thrown, 4, tree, "an object of the library");
        }
        return super.visitNewClass(tree, none);
    }

    @Override
    public Void visitNewArray(NewArrayTree tree, Void none) {
        need(open == null || isConstructor(open), 12, tree, "an array that a call makes");
        return super.visitNewArray(tree, none);
    }

    @Override
    public Void visitIdentifier(IdentifierTree tree, Void none) {
        needOwnField(tree);
        return super.visitIdentifier(tree, none);
    }

    @Override
    public Void visitMemberSelect(MemberSelectTree tree, Void none) {
        if (!tree.getIdentifier().contentEquals("length")) {
            needOwnField(tree);
        }
        return super.visitMemberSelect(tree, none);
    }

    private void needOwnField(ExpressionTree tree) {
        Element element = trees.getElement(getCurrentPath());
        boolean foreign = element != null && element.getKind() == ElementKind.FIELD && !isOwn(element)
                && !tree.toString().equals("this");
        need(!foreign, 4, tree, "the library's field " + tree);
    }

    // ---- exceptions

    @Override
    public Void visitThrow(ThrowTree tree, Void none) {
        boolean plain = false;
        if (tree.getExpression() instanceof NewClassTree made) {
            List<? extends ExpressionTree> told = made.getArguments();
            plain = EXCEPTIONS.contains(made.getIdentifier().toString()) && told.size() <= 1
                    && (told.isEmpty() || told.get(0) instanceof LiteralTree);
        }
        need(plain, 6, tree, tree.toString());
        need(open == null || !isConstructor(open), 6, tree, "a throw in a constructor");
        return super.visitThrow(tree, none);
    }

    @Override
    public Void visitTry(TryTree tree, Void none) {
        fault(6, tree, "a try, which the class does not need");
        return super.visitTry(tree, none);
    }

    @Override
    public Void visitSynchronized(SynchronizedTree tree, Void none) {
        fault(6, tree, "synchronized");
        return super.visitSynchronized(tree, none);
    }

    @Override
    public Void visitAssert(AssertTree tree, Void none) {
        fault(6, tree, "an assert");
        return super.visitAssert(tree, none);
    }

    @Override
    public Void visitInstanceOf(InstanceOfTree tree, Void none) {
        fault(6, tree, "an instanceof, which the class does not need");
        return super.visitInstanceOf(tree, none);
    }

    @Override
    public Void visitTypeCast(TypeCastTree tree, Void none) {
        TypeMirror type = trees.getTypeMirror(new TreePath(getCurrentPath(), tree.getType()));
        need(NUMBERS.contains(type.getKind()), 6, tree, "a cast to " + type);
        return super.visitTypeCast(tree, none);
    }

    // ---- statements and expressions

    @Override
    public Void visitLambdaExpression(LambdaExpressionTree tree, Void none) {
        fault(2, tree, "a lambda");
        return super.visitLambdaExpression(tree, none);
    }

    @Override
    public Void visitMemberReference(MemberReferenceTree tree, Void none) {
        fault(2, tree, "a method reference");
        return super.visitMemberReference(tree, none);
    }

    @Override
    public Void visitForLoop(ForLoopTree tree, Void none) {
        need(tree.getCondition() != null && compares(tree.getCondition()) && !tree.getUpdate().isEmpty(), 9, tree,
                "a loop without a counter against a bound");
        return super.visitForLoop(tree, none);
    }

    @Override
    public Void visitWhileLoop(WhileLoopTree tree, Void none) {
        need(compares(tree.getCondition()), 9, tree, "a loop without a bound");
        return super.visitWhileLoop(tree, none);
    }

    @Override
    public Void visitDoWhileLoop(DoWhileLoopTree tree, Void none) {
        need(compares(tree.getCondition()), 9, tree, "a loop without a bound");
        return super.visitDoWhileLoop(tree, none);
    }

    /** All that && joins must hold for the loop to go on, so one comparison of a counter is enough. */
    private static boolean compares(ExpressionTree condition) {
        if (condition instanceof ParenthesizedTree inner) {
            return compares(inner.getExpression());
        }
        if (condition instanceof BinaryTree both && both.getKind() == Tree.Kind.CONDITIONAL_AND) {
            return compares(both.getLeftOperand()) || compares(both.getRightOperand());
        }
        return COMPARISONS.contains(condition.getKind());
    }

    @Override
    public Void visitSwitch(SwitchTree tree, Void none) {
        TypeMirror type = trees.getTypeMirror(new TreePath(getCurrentPath(), tree.getExpression()));
        need(type == null || NUMBERS.contains(type.getKind()), 10, tree, "a switch on " + type);
        return super.visitSwitch(tree, none);
    }

    @Override
    public Void visitBinary(BinaryTree tree, Void none) {
        boolean texts = isText(tree.getLeftOperand()) || isText(tree.getRightOperand());
        need(!texts || tree.getKind() != Tree.Kind.PLUS, 10, tree, "texts joined by +");
        boolean same = tree.getKind() == Tree.Kind.EQUAL_TO || tree.getKind() == Tree.Kind.NOT_EQUAL_TO;
        need(!texts || !same, 6, tree, "texts compared by what they are");
        return super.visitBinary(tree, none);
    }

    @Override
    public Void visitCompoundAssignment(CompoundAssignmentTree tree, Void none) {
        need(!isText(tree.getVariable()), 10, tree, "texts joined by +=");
        return super.visitCompoundAssignment(tree, none);
    }

    @Override
    public Void visitConditionalExpression(ConditionalExpressionTree tree, Void none) {
        need(!isText(tree), 3, tree, "a text, which the class does not need");
        return super.visitConditionalExpression(tree, none);
    }

    private boolean isText(ExpressionTree tree) {
        TypeMirror type = trees.getTypeMirror(pathOf(tree));
        return type != null && type.toString().equals("java.lang.String");
    }
}
