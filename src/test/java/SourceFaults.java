import com.sun.source.tree.BinaryTree;
import com.sun.source.tree.ClassTree;
import com.sun.source.tree.ConditionalExpressionTree;
import com.sun.source.tree.ForLoopTree;
import com.sun.source.tree.MethodTree;
import com.sun.source.tree.NewArrayTree;
import com.sun.source.tree.NewClassTree;
import com.sun.source.tree.Tree;
import com.sun.source.tree.TypeCastTree;
import com.sun.source.tree.UnaryTree;
import com.sun.source.tree.VariableTree;
import com.sun.source.tree.WhileLoopTree;
import com.sun.source.util.TreePath;
import com.sun.source.util.TreePathScanner;
import com.sun.source.util.Trees;
import java.util.ArrayList;
import java.util.List;
import java.util.Set;
import java.util.TreeSet;
import javax.lang.model.element.Element;
import javax.lang.model.element.VariableElement;
import javax.lang.model.type.TypeMirror;

/** Finds in a source what the rules of LANGUAGE.md about types, divisors, casts, loops and what is made do not allow. */
final class SourceFaults extends TreePathScanner<Void, Void> {
    private static final String NUMBERS = "(?:int|long|short|byte|char|double|float)";

    private final Trees trees;
    private final Set<String> ownClasses = new TreeSet<>();
    private final List<String> faults = new ArrayList<>();
    private int looked;

    SourceFaults(ParsedSource source) {
        trees = source.trees;
        scan(source.unit, null);
    }

    List<String> faults() {
        return faults;
    }

    /** How many places a rule was held against. */
    int looked() {
        return looked;
    }

    private void due(boolean holds, String rule, Tree place) {
        looked++;
        if (!holds) {
            faults.add("rule " + rule + ": " + place);
        }
    }

    /** All names of classes are known ahead of what stands in them. */
    @Override
    public Void visitClass(ClassTree one, Void nothing) {
        ownClasses.add(one.getSimpleName().toString());
        for (Tree member : one.getMembers()) {
            if (member instanceof ClassTree) {
                ownClasses.add(((ClassTree) member).getSimpleName().toString());
            }
        }
        return super.visitClass(one, nothing);
    }

    @Override
    public Void visitVariable(VariableTree variable, Void nothing) {
        due(isAllowed(variable.getType().toString()), "3, the type", variable);
        return super.visitVariable(variable, nothing);
    }

    @Override
    public Void visitMethod(MethodTree method, Void nothing) {
        Tree type = method.getReturnType();
        due(type == null || type.toString().equals("void") || isAllowed(type.toString()), "3, the type of", method);
        return super.visitMethod(method, nothing);
    }

    private boolean isAllowed(String type) {
        return type.matches(NUMBERS + "(?:\\[\\]){0,2}") || type.matches("(?:boolean|String)(?:\\[\\])?")
            || ownClasses.contains(type.replaceFirst("\\[\\]$", ""));
    }

    @Override
    public Void visitBinary(BinaryTree binary, Void nothing) {
        if (binary.getKind() == Tree.Kind.PLUS) {
            due(!"java.lang.String".equals(typeOf(binary)), "10, texts joined by +", binary);
        } else if (binary.getKind() == Tree.Kind.DIVIDE || binary.getKind() == Tree.Kind.REMAINDER) {
            due(isConstant(binary.getRightOperand()) || isBehindTest(binary.getRightOperand()), "7, the divisor", binary);
        }
        return super.visitBinary(binary, nothing);
    }

    private String typeOf(Tree tree) {
        TypeMirror type = trees.getTypeMirror(pathOf(tree));
        return type == null ? "" : type.toString();
    }

    private TreePath pathOf(Tree tree) {
        return trees.getPath(getCurrentPath().getCompilationUnit(), tree);
    }

    /** A constant that is not 0. */
    private boolean isConstant(Tree divisor) {
        Element element = trees.getElement(pathOf(divisor));
        Object value = element instanceof VariableElement ? ((VariableElement) element).getConstantValue() : null;
        return value instanceof Integer && (Integer) value != 0;
    }

    private boolean isBehindTest(Tree divisor) {
        for (TreePath path = getCurrentPath(); path != null; path = path.getParentPath()) {
            if (path.getLeaf() instanceof ConditionalExpressionTree) {
                String test = ((ConditionalExpressionTree) path.getLeaf()).getCondition().toString();
                return test.equals("(" + divisor + " > 0)") || test.equals(divisor + " > 0");
            }
        }
        return false;
    }

    @Override
    public Void visitTypeCast(TypeCastTree cast, Void nothing) {
        due(cast.getType().toString().matches(NUMBERS), "6, a cast that is not of numbers", cast);
        return super.visitTypeCast(cast, nothing);
    }

    @Override
    public Void visitNewClass(NewClassTree made, Void nothing) {
        due(isMadeWithObject(), "12, made in a call", made);
        return super.visitNewClass(made, nothing);
    }

    @Override
    public Void visitNewArray(NewArrayTree made, Void nothing) {
        due(isMadeWithObject(), "12, made in a call", made);
        for (Tree length : made.getDimensions()) {
            due(isConstant(length), "7, the length of a new array", made);
        }
        return super.visitNewArray(made, nothing);
    }

    /** In the initialiser of a field, or in a constructor. */
    private boolean isMadeWithObject() {
        for (TreePath path = getCurrentPath(); path != null; path = path.getParentPath()) {
            if (path.getLeaf() instanceof MethodTree) {
                return ((MethodTree) path.getLeaf()).getReturnType() == null;
            }
        }
        return true;
    }

    @Override
    public Void visitForLoop(ForLoopTree loop, Void nothing) {
        due(loop.getCondition() != null && !loop.getUpdate().isEmpty(), "9, no end", loop);
        return super.visitForLoop(loop, nothing);
    }

    /** The condition holds a counter, which the body moves on. */
    @Override
    public Void visitWhileLoop(WhileLoopTree loop, Void nothing) {
        Set<String> moved = new TreeSet<>();
        new TreePathScanner<Void, Void>() {
            @Override
            public Void visitUnary(UnaryTree unary, Void none) {
                moved.add(unary.getExpression().toString());
                return super.visitUnary(unary, none);
            }
        }.scan(pathOf(loop.getStatement()), null);
        String condition = loop.getCondition().toString();
        due(moved.stream().anyMatch(counter -> condition.matches(".*\\b" + counter + " <.*")), "9, no end", loop);
        return super.visitWhileLoop(loop, nothing);
    }
}
