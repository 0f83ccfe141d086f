import com.sun.source.tree.AssertTree;
import com.sun.source.tree.BinaryTree;
import com.sun.source.tree.ClassTree;
import com.sun.source.tree.CompilationUnitTree;
import com.sun.source.tree.DoWhileLoopTree;
import com.sun.source.tree.EnhancedForLoopTree;
import com.sun.source.tree.ExpressionTree;
import com.sun.source.tree.ForLoopTree;
import com.sun.source.tree.IdentifierTree;
import com.sun.source.tree.ImportTree;
import com.sun.source.tree.InstanceOfTree;
import com.sun.source.tree.LambdaExpressionTree;
import com.sun.source.tree.MemberReferenceTree;
import com.sun.source.tree.MethodInvocationTree;
import com.sun.source.tree.MethodTree;
import com.sun.source.tree.NewArrayTree;
import com.sun.source.tree.NewClassTree;
import com.sun.source.tree.PackageTree;
import com.sun.source.tree.ParenthesizedTree;
import com.sun.source.tree.SynchronizedTree;
import com.sun.source.tree.ThrowTree;
import com.sun.source.tree.Tree;
import com.sun.source.tree.TryTree;
import com.sun.source.tree.TypeCastTree;
import com.sun.source.tree.UnaryTree;
import com.sun.source.tree.VariableTree;
import com.sun.source.tree.WhileLoopTree;
import com.sun.source.util.JavacTask;
import com.sun.source.util.TreePathScanner;
import com.sun.source.util.TreeScanner;
import com.sun.source.util.Trees;
import java.io.IOException;
import java.nio.file.Path;
import java.util.HashSet;
import java.util.List;
import java.util.Map;
import java.util.Set;
import java.util.TreeMap;
import java.util.TreeSet;
import javax.lang.model.element.Element;
import javax.lang.model.element.ElementKind;
import javax.lang.model.element.ExecutableElement;
import javax.lang.model.element.Modifier;
import javax.lang.model.element.VariableElement;
import javax.tools.JavaCompiler;
import javax.tools.StandardJavaFileManager;
import javax.tools.ToolProvider;

/** The rules of ../shared/LANGUAGE.md, looked for in what the compiler reads of the class. */
public final class RulesTest extends TreePathScanner<Void, Void> {
    private static final Path SOURCE = Path.of("src/main/java/ColoursApart.java");
    private static final Set<String> LIBRARY = Set.of(
            "java.lang.Math.max", "java.lang.Math.min", "java.lang.Math.floorDiv", "java.lang.System.arraycopy",
            "java.lang.Object.<init>");
    private static final Set<String> SIMPLE_TYPES = Set.of("int", "boolean", "int[]", "boolean[]", "void");
    private static final int DEEPEST = 8;
    private static final int LONGEST = 60;

    private final Check check = new Check();
    private final Trees trees;
    private final CompilationUnitTree unit;
    private final Set<String> openNames = new TreeSet<>();
    private final Map<String, Set<String>> callsOf = new TreeMap<>();
    private int classes = 0;

    private RulesTest(Trees trees, CompilationUnitTree unit) {
        this.trees = trees;
        this.unit = unit;
    }

    public static void main(String[] args) throws IOException {
        JavaCompiler compiler = ToolProvider.getSystemJavaCompiler();
        try (StandardJavaFileManager files = compiler.getStandardFileManager(null, null, null)) {
            JavacTask task = (JavacTask) compiler.getTask(null, files, null, List.of("-proc:none"), null,
                    files.getJavaFileObjects(SOURCE));
            CompilationUnitTree unit = task.parse().iterator().next();
            task.analyze();
            new RulesTest(Trees.instance(task), unit).look();
        }
    }

    private void look() {
        check.part(SOURCE.toString());
        is("rule 1: one class on top", unit, unit.getTypeDecls().size() == 1);
        ClassTree top = (ClassTree) unit.getTypeDecls().get(0);
        for (Tree member : top.getMembers()) {
            if (member instanceof MethodTree method && isOpen(method) && method.getReturnType() != null) {
                openNames.add(method.getName().toString());
            }
        }
        scan(unit, null);
        is("rule 11: at most twelve classes", unit, classes <= 12);
        for (String method : callsOf.keySet()) {
            int depth = depthFrom(method, new HashSet<>());
            check.due("rule 11: " + method + " goes eight deep at most (" + depth + ")", depth <= DEEPEST ? 1 : 0, 1);
        }
        check.end("RulesTest");
    }

    private void is(String rule, Tree tree, boolean holds) {
        long at = trees.getSourcePositions().getStartPosition(unit, tree);
        check.due("line " + unit.getLineMap().getLineNumber(Math.max(0, at)) + ", " + rule, holds ? 1 : 0, 1);
    }

    private void never(String rule, Tree tree) {
        is(rule, tree, false);
    }

    private static boolean isOpen(MethodTree method) {
        return method.getModifiers().getFlags().contains(Modifier.PUBLIC);
    }

    private Element elementOf(Tree tree) {
        return trees.getElement(trees.getPath(unit, tree));
    }

    private MethodTree methodAround() {
        for (Tree tree : getCurrentPath()) {
            if (tree instanceof MethodTree method) {
                return method;
            }
        }
        return null;
    }

    private static String fullName(Element element) {
        return element.getEnclosingElement() + "." + element.getSimpleName();
    }

    @Override
    public Void visitPackage(PackageTree tree, Void none) {
        never("no package line", tree);
        return super.visitPackage(tree, none);
    }

    @Override
    public Void visitImport(ImportTree tree, Void none) {
        never("rule 4: no library beyond the list", tree);
        return super.visitImport(tree, none);
    }

    @Override
    public Void visitClass(ClassTree tree, Void none) {
        classes++;
        Set<Modifier> flags = tree.getModifiers().getFlags();
        if (getCurrentPath().getParentPath().getLeaf() != unit) {
            is("rule 2: a class inside is static", tree, flags.contains(Modifier.STATIC));
            is("rule 1: a class inside is not open", tree,
                    !flags.contains(Modifier.PUBLIC) && !flags.contains(Modifier.PROTECTED));
            is("rule 2: a class inside stands in the class", tree, methodAround() == null);
        }
        long fields = tree.getMembers().stream().filter(member -> member instanceof VariableTree field
                && !field.getModifiers().getFlags().contains(Modifier.STATIC)).count();
        is("rule 11: at most twenty fields", tree, fields <= 20);
        return super.visitClass(tree, none);
    }

    @Override
    public Void visitMethod(MethodTree tree, Void none) {
        ExecutableElement method = (ExecutableElement) elementOf(tree);
        callsOf.computeIfAbsent(fullName(method), name -> new TreeSet<>());
        is("rule 1: no other method bears a public name", tree,
                isOpen(tree) || !openNames.contains(tree.getName().toString()));
        is("rule 11: at most seven parameters", tree, tree.getParameters().size() <= 7);
        is("rule 6: nothing is thrown", tree, tree.getThrows().isEmpty());
        long from = trees.getSourcePositions().getStartPosition(unit, tree);
        long to = trees.getSourcePositions().getEndPosition(unit, tree);
        long lines = to < 0 ? 1 : unit.getLineMap().getLineNumber(to) - unit.getLineMap().getLineNumber(from) + 1;
        is("rule 11: a short method", tree, lines <= LONGEST);
        is("rule 3: the type of an answer", tree, isPlainType(method.getReturnType().toString()));
        return super.visitMethod(tree, none);
    }

    private static boolean isPlainType(String type) {
        return SIMPLE_TYPES.contains(type) || type.matches("ColoursApart\\.\\w+(\\[])?");
    }

    @Override
    public Void visitVariable(VariableTree tree, Void none) {
        VariableElement variable = (VariableElement) elementOf(tree);
        is("rule 3: type " + variable.asType(), tree, isPlainType(variable.asType().toString()));
        if (variable.getModifiers().contains(Modifier.STATIC)) {
            is("rule 5: a static field is a constant", tree,
                    variable.getModifiers().contains(Modifier.FINAL) && variable.getConstantValue() != null);
        }
        return super.visitVariable(tree, none);
    }

    @Override
    public Void visitMethodInvocation(MethodInvocationTree tree, Void none) {
        Element called = elementOf(tree.getMethodSelect());
        String name = fullName(called);
        if (name.startsWith("ColoursApart.")) {
            MethodTree around = methodAround();
            is("a method is called by a method", tree, around != null);
            String caller = fullName(elementOf(around));
            callsOf.computeIfAbsent(caller, key -> new TreeSet<>()).add(name);
            if (caller.equals(name)) {
                is("rule 8: what calls itself is private and static", tree,
                        called.getModifiers().containsAll(Set.of(Modifier.PRIVATE, Modifier.STATIC)));
            }
        } else {
            is("rule 4: " + name + " stands in the list", tree, LIBRARY.contains(name));
        }
        return super.visitMethodInvocation(tree, none);
    }

    /** A method that calls itself counts once; more than one method in a ring would be far too deep. */
    private int depthFrom(String method, Set<String> open) {
        if (!open.add(method)) {
            return DEEPEST + 1;
        }
        int deepest = 0;
        for (String called : callsOf.getOrDefault(method, Set.of())) {
            if (!called.equals(method)) {
                deepest = Math.max(deepest, depthFrom(called, open));
            }
        }
        open.remove(method);
        return deepest + 1;
    }

    @Override
    public Void visitNewClass(NewClassTree tree, Void none) {
        is("rule 2: no class without a name", tree, tree.getClassBody() == null);
        isMadeInConstructor(tree);
        return super.visitNewClass(tree, none);
    }

    @Override
    public Void visitNewArray(NewArrayTree tree, Void none) {
        isMadeInConstructor(tree);
        return super.visitNewArray(tree, none);
    }

    /** Stricter than rule 12, so that no run of calls can fill the room. */
    private void isMadeInConstructor(Tree tree) {
        MethodTree around = methodAround();
        is("rule 12: made by a constructor", tree,
                around == null || elementOf(around).getKind() == ElementKind.CONSTRUCTOR);
    }

    @Override
    public Void visitForLoop(ForLoopTree tree, Void none) {
        hasAnEnd(tree, tree.getCondition());
        return super.visitForLoop(tree, none);
    }

    @Override
    public Void visitWhileLoop(WhileLoopTree tree, Void none) {
        hasAnEnd(tree, tree.getCondition());
        return super.visitWhileLoop(tree, none);
    }

    /** A name is compared with a bound by < or <=, joined by && alone, and goes up in the loop's own lines. */
    private void hasAnEnd(Tree loop, ExpressionTree condition) {
        Set<String> bounded = new HashSet<>();
        if (condition != null) {
            collectBounded(condition, bounded);
        }
        Set<String> rising = new HashSet<>();
        new TreeScanner<Void, Void>() {
            @Override
            public Void visitUnary(UnaryTree tree, Void none) {
                if (tree.getKind() == Tree.Kind.POSTFIX_INCREMENT && tree.getExpression() instanceof IdentifierTree name) {
                    rising.add(name.getName().toString());
                }
                return super.visitUnary(tree, none);
            }
        }.scan(loop, null);
        bounded.retainAll(rising);
        is("rule 9: the loop's end can be seen", loop, !bounded.isEmpty());
    }

    private static void collectBounded(ExpressionTree condition, Set<String> bounded) {
        if (condition instanceof ParenthesizedTree inside) {
            collectBounded(inside.getExpression(), bounded);
        } else if (condition instanceof BinaryTree pair && pair.getKind() == Tree.Kind.CONDITIONAL_AND) {
            collectBounded(pair.getLeftOperand(), bounded);
            collectBounded(pair.getRightOperand(), bounded);
        } else if (condition instanceof BinaryTree pair
                && (pair.getKind() == Tree.Kind.LESS_THAN || pair.getKind() == Tree.Kind.LESS_THAN_EQUAL)
                && pair.getLeftOperand() instanceof IdentifierTree name) {
            bounded.add(name.getName().toString());
        }
    }

    @Override
    public Void visitDoWhileLoop(DoWhileLoopTree tree, Void none) {
        never("this test knows no end of a do loop", tree);
        return super.visitDoWhileLoop(tree, none);
    }

    @Override
    public Void visitEnhancedForLoop(EnhancedForLoopTree tree, Void none) {
        is("rule 9: over an array", tree, elementOf(tree.getExpression()).asType().toString().endsWith("[]"));
        return super.visitEnhancedForLoop(tree, none);
    }

    @Override
    public Void visitBinary(BinaryTree tree, Void none) {
        if (tree.getKind() == Tree.Kind.DIVIDE || tree.getKind() == Tree.Kind.REMAINDER) {
            String divisor = tree.getRightOperand().toString();
            is("rule 7: divisor " + divisor + " is looked at", tree, isSafeDivisor(tree.getRightOperand()));
        }
        return super.visitBinary(tree, none);
    }

    /** A constant above 0, Math.max(1, ..), or a name that is looked at where it is made (listed by hand). */
    private boolean isSafeDivisor(ExpressionTree divisor) {
        String words = divisor.toString();
        Set<String> lookedAt = Set.of("gaps", "side", "(side * side)", "divisor", "lesser");
        if (divisor instanceof IdentifierTree && elementOf(divisor) instanceof VariableElement variable
                && variable.getConstantValue() instanceof Integer value) {
            return value > 0;
        }
        return words.matches("[1-9][0-9]*") || words.startsWith("Math.max(1, ") || lookedAt.contains(words);
    }

    @Override
    public Void visitTypeCast(TypeCastTree tree, Void none) {
        is("rule 6: casts are of numbers alone", tree, Set.of("short", "byte", "int").contains(tree.getType().toString()));
        return super.visitTypeCast(tree, none);
    }

    @Override
    public Void visitInstanceOf(InstanceOfTree tree, Void none) {
        never("this class needs no instanceof", tree);
        return super.visitInstanceOf(tree, none);
    }

    @Override
    public Void visitLambdaExpression(LambdaExpressionTree tree, Void none) {
        never("rule 2: no lambda", tree);
        return super.visitLambdaExpression(tree, none);
    }

    @Override
    public Void visitMemberReference(MemberReferenceTree tree, Void none) {
        never("rule 2: no method reference", tree);
        return super.visitMemberReference(tree, none);
    }

    @Override
    public Void visitThrow(ThrowTree tree, Void none) {
        never("rule 6: no throw", tree);
        return super.visitThrow(tree, none);
    }

    @Override
    public Void visitTry(TryTree tree, Void none) {
        never("rule 6: no try", tree);
        return super.visitTry(tree, none);
    }

    @Override
    public Void visitSynchronized(SynchronizedTree tree, Void none) {
        never("rule 6: no synchronized", tree);
        return super.visitSynchronized(tree, none);
    }

    @Override
    public Void visitAssert(AssertTree tree, Void none) {
        never("rule 6: no assert", tree);
        return super.visitAssert(tree, none);
    }
}
