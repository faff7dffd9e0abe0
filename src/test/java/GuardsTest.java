import com.sun.source.tree.*;
import com.sun.source.util.TreePath;
import com.sun.source.util.TreePathScanner;
import java.util.EnumSet;
import java.util.HashSet;
import java.util.Set;
import javax.lang.model.element.Element;
import javax.lang.model.element.ElementKind;
import javax.lang.model.element.Modifier;
import javax.lang.model.element.VariableElement;
import javax.lang.model.type.TypeKind;
import javax.lang.model.type.TypeMirror;

/**
 * What keeps the Java machine from throwing in the class, as far as its source shows it: an index is compared
 * in its method ahead of its use, what may be null is compared with null, and there are no casts of objects,
 * no divisors and array lengths but constants. Also that only constructors make objects, and rules 5, 9 and 10.
 */
public final class GuardsTest {
    private static final Set<Tree.Kind> ORDERS = EnumSet.of(Tree.Kind.LESS_THAN, Tree.Kind.LESS_THAN_EQUAL,
        Tree.Kind.GREATER_THAN, Tree.Kind.GREATER_THAN_EQUAL);
    private static final Set<Tree.Kind> EQUALITIES = EnumSet.of(Tree.Kind.EQUAL_TO, Tree.Kind.NOT_EQUAL_TO);
    private static final Set<Tree.Kind> DIVISIONS = EnumSet.of(Tree.Kind.DIVIDE, Tree.Kind.REMAINDER,
        Tree.Kind.DIVIDE_ASSIGNMENT, Tree.Kind.REMAINDER_ASSIGNMENT);
    private static final Set<String> STATIC_TYPES = Set.of("int", "long", "boolean", "char", "java.lang.String",
        "int[]", "long[]", "char[]", "byte[]");
    private static final String TEXT = "java.lang.String";

    private static int wrong = 0;
    private static int indices = 0;
    private static int references = 0;

    private static void wrong(String what) {
        wrong++;
        System.out.println(what);
    }

    /** The methods that answer null at times. */
    private static final class NullAnswers extends TreePathScanner<Void, Void> {
        private final Source source;
        private final Set<Element> found = new HashSet<>();
        private Element method;

        NullAnswers(Source source) {
            this.source = source;
        }

        @Override
        public Void visitMethod(MethodTree tree, Void nothing) {
            method = source.trees().getElement(getCurrentPath());
            return super.visitMethod(tree, nothing);
        }

        @Override
        public Void visitReturn(ReturnTree tree, Void nothing) {
            if (canBeNull(tree.getExpression())) {
                found.add(method);
            }
            return super.visitReturn(tree, nothing);
        }

        private static boolean canBeNull(ExpressionTree answer) {
            if (answer instanceof ConditionalExpressionTree) {
                ConditionalExpressionTree either = (ConditionalExpressionTree) answer;
                return canBeNull(either.getTrueExpression()) || canBeNull(either.getFalseExpression());
            }
            return answer != null && answer.getKind() == Tree.Kind.NULL_LITERAL;
        }
    }

    private static final class Guards extends TreePathScanner<Void, Void> {
        private final Source source;
        private final Set<Element> nullAnswers;
        /** What the method compared so far: with an order, or with null. */
        private final Set<Element> ordered = new HashSet<>();
        private final Set<Element> comparedWithNull = new HashSet<>();
        private final Set<Element> mayBeNull = new HashSet<>();
        private boolean mayMake = true;

        Guards(Source source, Set<Element> nullAnswers) {
            this.source = source;
            this.nullAnswers = nullAnswers;
        }

        private Element element(Tree tree) {
            return source.trees().getElement(new TreePath(getCurrentPath(), tree));
        }

        private TypeMirror type(Tree tree) {
            return source.trees().getTypeMirror(new TreePath(getCurrentPath(), tree));
        }

        /** The variables and fields that an expression reads; of a.b that is b. */
        private Set<Element> variablesIn(Tree tree) {
            Set<Element> variables = new HashSet<>();
            new TreePathScanner<Void, Void>() {
                @Override
                public Void visitIdentifier(IdentifierTree name, Void none) {
                    add(source.trees().getElement(getCurrentPath()));
                    return null;
                }

                @Override
                public Void visitMemberSelect(MemberSelectTree select, Void none) {
                    add(source.trees().getElement(getCurrentPath()));
                    return null;
                }

                private void add(Element element) {
                    if (element instanceof VariableElement && ((VariableElement) element).getConstantValue() == null) {
                        variables.add(element);
                    }
                }
            }.scan(new TreePath(getCurrentPath(), tree), null);
            return variables;
        }

        private boolean isConstant(Tree tree) {
            return !(tree instanceof MethodInvocationTree) && variablesIn(tree).isEmpty();
        }

        // ---- the frame: which method, and what was compared in it

        @Override
        public Void visitMethod(MethodTree tree, Void nothing) {
            ordered.clear();
            comparedWithNull.clear();
            mayBeNull.clear();
            mayMake = tree.getName().contentEquals("<init>");
            super.visitMethod(tree, nothing);
            mayMake = true;
            return null;
        }

        @Override
        public Void visitSwitch(SwitchTree tree, Void nothing) {
            ordered.addAll(variablesIn(tree.getExpression()));
            return super.visitSwitch(tree, nothing);
        }

        @Override
        public Void visitBinary(BinaryTree tree, Void nothing) {
            super.visitBinary(tree, nothing);
            if (ORDERS.contains(tree.getKind())) {
                ordered.addAll(variablesIn(tree.getLeftOperand()));
                ordered.addAll(variablesIn(tree.getRightOperand()));
            }
            if (EQUALITIES.contains(tree.getKind()) && tree.getRightOperand().getKind() == Tree.Kind.NULL_LITERAL) {
                comparedWithNull.addAll(variablesIn(tree.getLeftOperand()));
            }
            checkDivision(tree, tree.getRightOperand());
            if (tree.getKind() == Tree.Kind.PLUS && TEXT.equals(type(tree).toString())) {
                wrong(source.at(tree) + "texts joined by +");
            }
            return null;
        }

        // ---- what could throw

        @Override
        public Void visitArrayAccess(ArrayAccessTree tree, Void nothing) {
            super.visitArrayAccess(tree, nothing);
            indices++;
            for (Element variable : variablesIn(tree.getIndex())) {
                if (!ordered.contains(variable)) {
                    wrong(source.at(tree) + "the index is not looked at ahead of its use: " + tree);
                }
            }
            if (tree.getIndex() instanceof MethodInvocationTree) {
                wrong(source.at(tree) + "the index is what a call answers: " + tree);
            }
            return null;
        }

        @Override
        public Void visitVariable(VariableTree tree, Void nothing) {
            Element variable = source.trees().getElement(getCurrentPath());
            if (variable.getKind() == ElementKind.FIELD && variable.getModifiers().contains(Modifier.STATIC)) {
                checkStatic(tree, (VariableElement) variable);
            }
            if (tree.getInitializer() instanceof MethodInvocationTree && answersNull((MethodInvocationTree) tree.getInitializer())) {
                mayBeNull.add(variable);
            }
            return super.visitVariable(tree, nothing);
        }

        private boolean answersNull(MethodInvocationTree call) {
            return nullAnswers.contains(element(call.getMethodSelect()));
        }

        @Override
        public Void visitMethodInvocation(MethodInvocationTree tree, Void nothing) {
            if (answersNull(tree)) {
                references++;
                if (!(getCurrentPath().getParentPath().getLeaf() instanceof VariableTree)) {
                    wrong(source.at(tree) + "may be null, and is not kept to be compared: " + tree);
                }
            }
            if (tree.getMethodSelect().toString().endsWith(".clone")) {
                checkMaking(tree);
            }
            return super.visitMethodInvocation(tree, nothing);
        }

        @Override
        public Void visitMemberSelect(MemberSelectTree tree, Void nothing) {
            Element owner = element(tree.getExpression());
            if (mayBeNull.contains(owner) && !comparedWithNull.contains(owner)) {
                wrong(source.at(tree) + "may be null, and is not compared ahead of its use: " + tree);
            }
            return super.visitMemberSelect(tree, nothing);
        }

        @Override
        public Void visitTypeCast(TypeCastTree tree, Void nothing) {
            if (!type(tree.getType()).getKind().isPrimitive()) {
                wrong(source.at(tree) + "a cast of an object: " + tree);
            }
            return super.visitTypeCast(tree, nothing);
        }

        @Override
        public Void visitCompoundAssignment(CompoundAssignmentTree tree, Void nothing) {
            checkDivision(tree, tree.getExpression());
            return super.visitCompoundAssignment(tree, nothing);
        }

        private void checkDivision(Tree tree, Tree divisor) {
            if (DIVISIONS.contains(tree.getKind()) && (!isConstant(divisor) || divisor.toString().equals("0"))) {
                wrong(source.at(tree) + "a divisor that is no constant: " + tree);
            }
        }

        // ---- what a call makes

        @Override
        public Void visitNewArray(NewArrayTree tree, Void nothing) {
            checkMaking(tree);
            for (ExpressionTree length : tree.getDimensions()) {
                if (!isConstant(length)) {
                    wrong(source.at(tree) + "a length that is no constant: " + tree);
                }
            }
            return super.visitNewArray(tree, nothing);
        }

        @Override
        public Void visitNewClass(NewClassTree tree, Void nothing) {
            checkMaking(tree);
            return super.visitNewClass(tree, nothing);
        }

        private void checkMaking(Tree tree) {
            if (!mayMake) {
                wrong(source.at(tree) + "a call makes an object: " + tree);
            }
        }

        // ---- rules 5 and 9

        private void checkStatic(VariableTree tree, VariableElement field) {
            boolean isArray = field.asType().getKind() == TypeKind.ARRAY;
            boolean isWrittenOut = isArray ? tree.getInitializer() instanceof NewArrayTree : field.getConstantValue() != null;
            if (!field.getModifiers().contains(Modifier.FINAL) || !STATIC_TYPES.contains(field.asType().toString()) || !isWrittenOut) {
                wrong(source.at(tree) + "a static field that is no constant: " + tree);
            }
        }

        @Override
        public Void visitAssignment(AssignmentTree tree, Void nothing) {
            if (tree.getVariable() instanceof ArrayAccessTree) {
                Element array = element(((ArrayAccessTree) tree.getVariable()).getExpression());
                if (array != null && array.getModifiers().contains(Modifier.STATIC)) {
                    wrong(source.at(tree) + "a static array is changed: " + tree);
                }
            }
            return super.visitAssignment(tree, nothing);
        }

        @Override
        public Void visitBlock(BlockTree tree, Void nothing) {
            if (tree.isStatic()) {
                wrong(source.at(tree) + "a static initialiser block");
            }
            return super.visitBlock(tree, nothing);
        }

        @Override
        public Void visitForLoop(ForLoopTree tree, Void nothing) {
            if (tree.getCondition() == null) {
                wrong(source.at(tree) + "a loop without an end");
            }
            return super.visitForLoop(tree, nothing);
        }
    }

    public static void main(String[] args) throws Exception {
        Source source = Source.read();
        NullAnswers nullAnswers = new NullAnswers(source);
        nullAnswers.scan(source.unit(), null);
        new Guards(source, nullAnswers.found).scan(source.unit(), null);
        System.out.println("GuardsTest: " + indices + " indices and " + references + " references looked at, "
            + wrong + " without a guard or against a rule");
        if (wrong != 0 || indices == 0 || references == 0) {
            System.exit(1);
        }
    }
}
