import com.sun.source.tree.AssertTree;
import com.sun.source.tree.AssignmentTree;
import com.sun.source.tree.BinaryTree;
import com.sun.source.tree.BlockTree;
import com.sun.source.tree.ClassTree;
import com.sun.source.tree.CompilationUnitTree;
import com.sun.source.tree.CompoundAssignmentTree;
import com.sun.source.tree.DoWhileLoopTree;
import com.sun.source.tree.ExpressionTree;
import com.sun.source.tree.ForLoopTree;
import com.sun.source.tree.IdentifierTree;
import com.sun.source.tree.ImportTree;
import com.sun.source.tree.InstanceOfTree;
import com.sun.source.tree.LambdaExpressionTree;
import com.sun.source.tree.LiteralTree;
import com.sun.source.tree.MemberReferenceTree;
import com.sun.source.tree.MethodInvocationTree;
import com.sun.source.tree.MethodTree;
import com.sun.source.tree.NewArrayTree;
import com.sun.source.tree.NewClassTree;
import com.sun.source.tree.PackageTree;
import com.sun.source.tree.SynchronizedTree;
import com.sun.source.tree.ThrowTree;
import com.sun.source.tree.Tree;
import com.sun.source.tree.TryTree;
import com.sun.source.tree.TypeCastTree;
import com.sun.source.tree.VariableTree;
import com.sun.source.tree.WhileLoopTree;
import com.sun.source.util.JavacTask;
import com.sun.source.util.SourcePositions;
import com.sun.source.util.TreePathScanner;
import com.sun.source.util.Trees;
import java.net.URI;
import java.util.ArrayList;
import java.util.LinkedHashMap;
import java.util.List;
import java.util.Map;
import java.util.Set;
import java.util.TreeSet;
import java.util.regex.Pattern;
import javax.lang.model.element.Element;
import javax.lang.model.element.ElementKind;
import javax.lang.model.element.ExecutableElement;
import javax.lang.model.element.Modifier;
import javax.lang.model.element.TypeElement;
import javax.lang.model.element.VariableElement;
import javax.lang.model.type.ArrayType;
import javax.lang.model.type.TypeKind;
import javax.lang.model.type.TypeMirror;
import javax.tools.JavaCompiler;
import javax.tools.JavaFileObject;
import javax.tools.SimpleJavaFileObject;
import javax.tools.ToolProvider;

/**
 * What a source has that ../shared/LANGUAGE.md, or this project, does not allow, each with the rule's number. It is
 * narrower than the rules: the class uses less than they leave, and what it does not use is not looked into.
 */
final class Language extends TreePathScanner<Void, Void> {
    private static final Set<String> LIBRARY = Set.of(
        "System.arraycopy", "Integer.bitCount", "Math.max", "Math.min", "Math.abs", "Object.<init>");
    private static final Set<TypeKind> NUMBERS = Set.of(
        TypeKind.INT, TypeKind.LONG, TypeKind.SHORT, TypeKind.BYTE, TypeKind.CHAR, TypeKind.BOOLEAN);
    private static final int MOST_PARAMETERS = 7, MOST_LINES = 60, MOST_CLASSES = 12, MOST_FIELDS = 20, DEEPEST = 8;

    private final List<String> broken = new ArrayList<>();
    private final Map<ExecutableElement, Set<ExecutableElement>> calls = new LinkedHashMap<>();
    private final Map<ExecutableElement, String> bodies = new LinkedHashMap<>();
    private final Trees trees;
    private final SourcePositions positions;
    private final CompilationUnitTree unit;
    private ExecutableElement inside;
    private int classes;

    private Language(Trees trees, CompilationUnitTree unit) {
        this.trees = trees;
        this.positions = trees.getSourcePositions();
        this.unit = unit;
    }

    /** The rules that a source breaks, as texts that begin with the rule's number. */
    static List<String> brokenBy(String source) throws Exception {
        JavaCompiler compiler = ToolProvider.getSystemJavaCompiler();
        JavaFileObject file = new SimpleJavaFileObject(URI.create("string:///WrongWord.java"), JavaFileObject.Kind.SOURCE) {
            @Override
            public CharSequence getCharContent(boolean ignore) {
                return source;
            }
        };
        StringBuilder errors = new StringBuilder();
        JavacTask task = (JavacTask) compiler.getTask(null, null, d -> errors.append(d).append('\n'), List.of("-proc:none"),
            null, List.of(file));
        CompilationUnitTree unit = task.parse().iterator().next();
        task.analyze();
        if (errors.length() > 0) {
            return List.of("0 does not compile: " + errors);
        }
        Language look = new Language(Trees.instance(task), unit);
        look.scan(unit, null);
        look.ends();
        return look.broken;
    }

    private void breaks(int rule, String how, Tree where) {
        long line = where == null ? 0 : unit.getLineMap().getLineNumber(positions.getStartPosition(unit, where));
        broken.add(rule + " " + how + " at line " + line);
    }

    private void ends() {
        if (classes > MOST_CLASSES) {
            breaks(11, "more than some twelve classes", null);
        }
        for (ExecutableElement method : calls.keySet()) {
            deeper(method, new ArrayList<>());
        }
    }

    /** A method that calls itself has to carry its depth; a longer ring is told as one that goes too deep. */
    private void deeper(ExecutableElement method, List<ExecutableElement> open) {
        open.add(method);
        if (open.size() > DEEPEST) {
            breaks(11, "calls more than eight deep: " + open, null);
        } else {
            for (ExecutableElement callee : calls.getOrDefault(method, Set.of())) {
                if (callee != method) {
                    deeper(callee, open);
                } else if (callee.getParameters().stream().noneMatch(p -> p.getSimpleName().contentEquals("depth"))
                        || !bodies.get(callee).contains("if (depth >")) {
                    breaks(8, "a recursion without a guard on its depth: " + callee, null);
                }
            }
        }
        open.remove(open.size() - 1);
    }

    @Override
    public Void visitPackage(PackageTree tree, Void none) {
        breaks(1, "a package", tree);
        return super.visitPackage(tree, none);
    }

    @Override
    public Void visitImport(ImportTree tree, Void none) {
        breaks(4, "an import", tree);
        return super.visitImport(tree, none);
    }

    @Override
    public Void visitClass(ClassTree tree, Void none) {
        classes++;
        Element it = trees.getElement(getCurrentPath());
        boolean outer = it.getEnclosingElement().getKind() == ElementKind.PACKAGE;
        Set<Modifier> mods = it.getModifiers();
        if (outer ? !mods.equals(Set.of(Modifier.PUBLIC, Modifier.FINAL)) : !mods.contains(Modifier.STATIC)) {
            breaks(outer ? 1 : 2, "a class that is not as told", tree);
        }
        if (!outer && (mods.contains(Modifier.PUBLIC) || mods.contains(Modifier.PROTECTED))) {
            breaks(1, "a class inside that is public or protected", tree);
        }
        if (tree.getMembers().stream().filter(m -> m instanceof VariableTree v
                && !v.getModifiers().getFlags().contains(Modifier.STATIC)).count() > MOST_FIELDS) {
            breaks(11, "more than some twenty fields", tree);
        }
        for (Tree member : tree.getMembers()) {
            if (member instanceof BlockTree) {
                breaks(5, "a block of its own", member);
            }
        }
        return super.visitClass(tree, none);
    }

    @Override
    public Void visitMethod(MethodTree tree, Void none) {
        inside = (ExecutableElement) trees.getElement(getCurrentPath());
        calls.put(inside, new java.util.LinkedHashSet<>());
        bodies.put(inside, String.valueOf(tree.getBody()));
        long first = unit.getLineMap().getLineNumber(Math.max(0, positions.getStartPosition(unit, tree)));
        long last = unit.getLineMap().getLineNumber(Math.max(0, positions.getEndPosition(unit, tree)));
        if (last - first + 1 > MOST_LINES) {
            breaks(11, "a method of more than some sixty lines: " + inside, tree);
        }
        if (tree.getParameters().size() > MOST_PARAMETERS) {
            breaks(11, "more than seven parameters: " + inside, tree);
        }
        if (!tree.getThrows().isEmpty()) {
            breaks(6, "a method that throws: " + inside, tree);
        }
        memberOfFace(inside, tree);
        ownOfObject(inside, tree);
        super.visitMethod(tree, none);
        inside = null;
        return null;
    }

    private void memberOfFace(Element it, Tree tree) {
        Set<Modifier> mods = it.getModifiers();
        boolean outer = it.getEnclosingElement().getEnclosingElement().getKind() == ElementKind.PACKAGE;
        if (outer && !mods.contains(Modifier.PRIVATE) && !mods.contains(Modifier.PUBLIC)) {
            breaks(1, "a member that is neither public nor private: " + it, tree);
        }
        if (it.getKind() == ElementKind.METHOD && (!outer || mods.contains(Modifier.PRIVATE)) && bearsPublicName(it)) {
            breaks(1, "a method that bears the name of a public one: " + it, tree);
        }
    }

    private boolean bearsPublicName(Element it) {
        Element top = it.getEnclosingElement();
        while (top.getEnclosingElement().getKind() != ElementKind.PACKAGE) {
            top = top.getEnclosingElement();
        }
        return top.getEnclosedElements().stream().anyMatch(e -> e != it && e.getKind() == ElementKind.METHOD
            && e.getModifiers().contains(Modifier.PUBLIC) && e.getSimpleName().equals(it.getSimpleName()));
    }

    private void ownOfObject(ExecutableElement it, Tree tree) {
        if (Set.of("equals", "hashCode", "toString", "finalize", "clone").contains(it.getSimpleName().toString())) {
            breaks(6, "a method of all objects: " + it, tree);
        }
    }

    @Override
    public Void visitVariable(VariableTree tree, Void none) {
        Element it = trees.getElement(getCurrentPath());
        if (it.getKind() == ElementKind.FIELD) {
            memberOfFace(it, tree);
            if (it.getModifiers().contains(Modifier.STATIC)) {
                staticField((VariableElement) it, tree);
            }
        }
        allowed(it.asType(), tree);
        return super.visitVariable(tree, none);
    }

    private void staticField(VariableElement it, VariableTree tree) {
        boolean written = it.getConstantValue() != null
            || it.asType() instanceof ArrayType && tree.getInitializer() instanceof NewArrayTree made && made.getInitializers() != null;
        if (!it.getModifiers().contains(Modifier.FINAL) || !written) {
            breaks(5, "a static field that is no constant: " + it, tree);
        }
    }

    private void allowed(TypeMirror type, Tree tree) {
        TypeMirror of = type instanceof ArrayType array ? array.getComponentType() : type;
        boolean own = of.getKind() == TypeKind.DECLARED && isOwn(((javax.lang.model.type.DeclaredType) of).asElement());
        if (!NUMBERS.contains(of.getKind()) && !own) {
            breaks(3, "a type that the project does not use: " + type, tree);
        }
    }

    private static boolean isOwn(Element type) {
        Element top = type;
        while (top.getEnclosingElement().getKind() != ElementKind.PACKAGE) {
            top = top.getEnclosingElement();
        }
        return top.getSimpleName().contentEquals("WrongWord");
    }

    @Override
    public Void visitMethodInvocation(MethodInvocationTree tree, Void none) {
        called((ExecutableElement) trees.getElement(getCurrentPath()), tree);
        return super.visitMethodInvocation(tree, none);
    }

    private void called(ExecutableElement callee, Tree tree) {
        TypeElement of = (TypeElement) callee.getEnclosingElement();
        if (!isOwn(of)) {
            if (!LIBRARY.contains(of.getSimpleName() + "." + callee.getSimpleName())) {
                breaks(4, "a call of the library: " + of + "." + callee, tree);
            }
        } else if (inside != null) {
            calls.get(inside).add(callee);
        }
    }

    /** The room of a run is kept small by making all that there is in constructors. */
    private void made(Tree tree) {
        if (inside != null && inside.getKind() != ElementKind.CONSTRUCTOR) {
            breaks(12, "an object that is made outside a constructor", tree);
        }
    }

    @Override
    public Void visitNewClass(NewClassTree tree, Void none) {
        made(tree);
        if (tree.getClassBody() != null) {
            breaks(2, "an anonymous class", tree);
        }
        called((ExecutableElement) trees.getElement(getCurrentPath()), tree);
        return super.visitNewClass(tree, none);
    }

    @Override
    public Void visitNewArray(NewArrayTree tree, Void none) {
        made(tree);
        return super.visitNewArray(tree, none);
    }

    @Override
    public Void visitBinary(BinaryTree tree, Void none) {
        if (tree.getKind() == Tree.Kind.DIVIDE || tree.getKind() == Tree.Kind.REMAINDER) {
            divided(tree.getRightOperand());
        }
        return super.visitBinary(tree, none);
    }

    @Override
    public Void visitCompoundAssignment(CompoundAssignmentTree tree, Void none) {
        if (tree.getKind() == Tree.Kind.DIVIDE_ASSIGNMENT || tree.getKind() == Tree.Kind.REMAINDER_ASSIGNMENT) {
            divided(tree.getExpression());
        }
        return super.visitCompoundAssignment(tree, none);
    }

    /** A divisor is a number that is written out, a constant, or a name that its method holds against 0 or 1. */
    private void divided(ExpressionTree by) {
        boolean safe = by instanceof LiteralTree && !by.toString().matches("0[lL]?");
        if (by instanceof IdentifierTree) {
            Element it = trees.getElement(new com.sun.source.util.TreePath(getCurrentPath(), by));
            Object value = it instanceof VariableElement v ? v.getConstantValue() : null;
            safe = value instanceof Number n && n.longValue() != 0
                || Pattern.compile("\\b" + by + " > [01]\\b").matcher(bodies.getOrDefault(inside, "")).find();
        }
        if (!safe) {
            breaks(7, "a divisor that is not looked at: " + by, by);
        }
    }

    @Override
    public Void visitForLoop(ForLoopTree tree, Void none) {
        if (tree.getCondition() == null || tree.getUpdate().isEmpty()) {
            breaks(9, "a loop without a bound or a step", tree);
        }
        return super.visitForLoop(tree, none);
    }

    @Override
    public Void visitWhileLoop(WhileLoopTree tree, Void none) {
        breaks(9, "a while, the end of which its own lines show less well than those of a for", tree);
        return super.visitWhileLoop(tree, none);
    }

    @Override
    public Void visitDoWhileLoop(DoWhileLoopTree tree, Void none) {
        breaks(9, "a do, the end of which its own lines show less well than those of a for", tree);
        return super.visitDoWhileLoop(tree, none);
    }

    @Override
    public Void visitAssignment(AssignmentTree tree, Void none) {
        Element it = trees.getElement(new com.sun.source.util.TreePath(getCurrentPath(), arrayOf(tree.getVariable())));
        if (it != null && it.getModifiers().contains(Modifier.STATIC)) {
            breaks(5, "a static array that is changed: " + it, tree);
        }
        return super.visitAssignment(tree, none);
    }

    private static Tree arrayOf(Tree variable) {
        return variable instanceof com.sun.source.tree.ArrayAccessTree element ? element.getExpression() : variable;
    }

    @Override
    public Void visitThrow(ThrowTree tree, Void none) {
        breaks(6, "a throw", tree);
        return super.visitThrow(tree, none);
    }

    @Override
    public Void visitTry(TryTree tree, Void none) {
        breaks(6, "a try", tree);
        return super.visitTry(tree, none);
    }

    @Override
    public Void visitSynchronized(SynchronizedTree tree, Void none) {
        breaks(6, "a synchronized", tree);
        return super.visitSynchronized(tree, none);
    }

    @Override
    public Void visitAssert(AssertTree tree, Void none) {
        breaks(6, "an assert", tree);
        return super.visitAssert(tree, none);
    }

    @Override
    public Void visitLambdaExpression(LambdaExpressionTree tree, Void none) {
        breaks(2, "a lambda", tree);
        return super.visitLambdaExpression(tree, none);
    }

    @Override
    public Void visitMemberReference(MemberReferenceTree tree, Void none) {
        breaks(2, "a method reference", tree);
        return super.visitMemberReference(tree, none);
    }

    @Override
    public Void visitInstanceOf(InstanceOfTree tree, Void none) {
        breaks(6, "an instanceof, which the project does not use", tree);
        return super.visitInstanceOf(tree, none);
    }

    @Override
    public Void visitTypeCast(TypeCastTree tree, Void none) {
        if (!(tree.getType() instanceof com.sun.source.tree.PrimitiveTypeTree)) {
            breaks(6, "a cast to a class, which the project does not use", tree);
        }
        return super.visitTypeCast(tree, none);
    }
}
