import com.sun.source.tree.AnnotationTree;
import com.sun.source.tree.ArrayAccessTree;
import com.sun.source.tree.AssertTree;
import com.sun.source.tree.AssignmentTree;
import com.sun.source.tree.BinaryTree;
import com.sun.source.tree.BlockTree;
import com.sun.source.tree.ClassTree;
import com.sun.source.tree.CompilationUnitTree;
import com.sun.source.tree.CompoundAssignmentTree;
import com.sun.source.tree.DoWhileLoopTree;
import com.sun.source.tree.ExpressionTree;
import com.sun.source.tree.ForLoopTree;
import com.sun.source.tree.LambdaExpressionTree;
import com.sun.source.tree.LiteralTree;
import com.sun.source.tree.MemberReferenceTree;
import com.sun.source.tree.MethodInvocationTree;
import com.sun.source.tree.MethodTree;
import com.sun.source.tree.NewClassTree;
import com.sun.source.tree.SynchronizedTree;
import com.sun.source.tree.ThrowTree;
import com.sun.source.tree.Tree;
import com.sun.source.tree.TryTree;
import com.sun.source.tree.TypeCastTree;
import com.sun.source.tree.UnaryTree;
import com.sun.source.tree.VariableTree;
import com.sun.source.tree.WhileLoopTree;
import com.sun.source.util.JavacTask;
import com.sun.source.util.SourcePositions;
import com.sun.source.util.TreePath;
import com.sun.source.util.TreePathScanner;
import com.sun.source.util.Trees;
import java.io.IOException;
import java.nio.file.Path;
import java.util.ArrayList;
import java.util.HashSet;
import java.util.LinkedHashMap;
import java.util.LinkedHashSet;
import java.util.List;
import java.util.Map;
import java.util.Set;
import javax.lang.model.element.Element;
import javax.lang.model.element.Modifier;
import javax.lang.model.element.TypeElement;
import javax.lang.model.type.ArrayType;
import javax.lang.model.type.TypeKind;
import javax.lang.model.type.TypeMirror;
import javax.tools.JavaCompiler;
import javax.tools.StandardJavaFileManager;
import javax.tools.ToolProvider;

/** Those rules of LANGUAGE.md that can be seen in the source, read as the compiler reads it. */
public final class RulesTest extends TreePathScanner<Void, Void> {
    private static final String SOURCE = "src/main/java/TwoTrue.java";
    private static final int DEEPEST = 8, LONGEST = 60, PARAMETERS = 7, CLASSES = 12, FIELDS = 20;

    // Of what rule 4 lists, that which the class uses; more of the list may come here as it is used.
    private static final Set<String> LIBRARY = Set.of("java.lang.String.length()",
            "java.lang.String.charAt(int)", "java.lang.String.indexOf(int)",
            "java.lang.System.arraycopy(java.lang.Object,int,java.lang.Object,int,int)");
    // All divisors: each is a constant, or never 0, or looked at ahead. Another one comes here when that is so of it.
    private static final Set<String> DIVISORS = Set.of("10", "PARTS", "d", "by", "size", "trial.size");
    private static final Set<TypeKind> STATIC_ROWS = Set.of(TypeKind.INT, TypeKind.LONG, TypeKind.CHAR, TypeKind.BYTE);
    private static final Set<TypeKind> STATIC_NUMBERS =
            Set.of(TypeKind.INT, TypeKind.LONG, TypeKind.CHAR, TypeKind.BOOLEAN);

    private final CompilationUnitTree unit;
    private final Trees trees;
    private final SourcePositions positions;
    private final Map<Element, Set<Element>> calls = new LinkedHashMap<>();
    private int classes = 0;

    private RulesTest(CompilationUnitTree unit, Trees trees) {
        this.unit = unit;
        this.trees = trees;
        this.positions = trees.getSourcePositions();
    }

    // ---- what the compiler knows

    private void rule(int number, Tree where, boolean is) {
        long line = unit.getLineMap().getLineNumber(positions.getStartPosition(unit, where));
        Check.holds("rule " + number + ", line " + line + ", " + where.getKind(), is);
    }

    private Element elementOf(Tree tree) {
        return trees.getElement(TreePath.getPath(unit, tree));
    }

    private TypeMirror typeOf(Tree tree) {
        return trees.getTypeMirror(TreePath.getPath(unit, tree));
    }

    private boolean isText(Tree tree) {
        return "java.lang.String".equals(String.valueOf(typeOf(tree)));
    }

    private static boolean isOwn(Element e) {
        Element top = e;
        while (top.getEnclosingElement() instanceof TypeElement) {
            top = top.getEnclosingElement();
        }
        return top.getSimpleName().contentEquals("TwoTrue");
    }

    private boolean isOwnType(TypeMirror type) {
        return type.getKind() == TypeKind.DECLARED && String.valueOf(type).startsWith("TwoTrue");
    }

    private Element callerOf() {
        for (TreePath p = getCurrentPath(); p != null; p = p.getParentPath()) {
            if (p.getLeaf() instanceof MethodTree) {
                return trees.getElement(p);
            }
        }
        return null;
    }

    // ---- classes, methods, variables

    @Override public Void visitClass(ClassTree c, Void v) {
        classes++;
        Element e = elementOf(c);
        boolean outer = getCurrentPath().getParentPath().getLeaf() instanceof CompilationUnitTree;
        boolean inside = getCurrentPath().getParentPath().getLeaf() instanceof ClassTree;
        rule(2, c, outer || inside && e.getModifiers().contains(Modifier.STATIC) && c.getSimpleName().length() > 0);
        int fields = 0;
        for (Tree member : c.getMembers()) {
            rule(5, member, !(member instanceof BlockTree) || !((BlockTree) member).isStatic());
            if (member instanceof VariableTree && !elementOf(member).getModifiers().contains(Modifier.STATIC)) {
                fields++;
            }
        }
        rule(11, c, fields <= FIELDS);
        return super.visitClass(c, v);
    }

    @Override public Void visitMethod(MethodTree m, Void v) {
        calls.putIfAbsent(elementOf(m), new LinkedHashSet<>());
        rule(11, m, m.getParameters().size() <= PARAMETERS);
        long end = positions.getEndPosition(unit, m);
        // A constructor that the compiler wrote stands nowhere.
        if (end >= 0) {
            rule(11, m, unit.getLineMap().getLineNumber(end)
                    - unit.getLineMap().getLineNumber(positions.getStartPosition(unit, m)) < LONGEST);
        }
        rule(6, m, m.getThrows().isEmpty());
        return super.visitMethod(m, v);
    }

    @Override public Void visitVariable(VariableTree d, Void v) {
        Element e = elementOf(d);
        rule(3, d, isAllowed(e.asType()));
        if (e.getKind().isField() && e.getModifiers().contains(Modifier.STATIC)) {
            rule(5, d, e.getModifiers().contains(Modifier.FINAL) && d.getInitializer() != null);
            rule(5, d, isAllowedStatic(e.asType(), d.getInitializer()));
        }
        return super.visitVariable(d, v);
    }

    private boolean isAllowed(TypeMirror type) {
        if (type.getKind() == TypeKind.ARRAY) {
            TypeMirror of = ((ArrayType) type).getComponentType();
            if (of.getKind() == TypeKind.ARRAY) {
                of = ((ArrayType) of).getComponentType();
                return of.getKind().isPrimitive();
            }
            return of.getKind().isPrimitive() || isOwnType(of);
        }
        return type.getKind().isPrimitive() || isOwnType(type) || "java.lang.String".equals(String.valueOf(type));
    }

    private boolean isAllowedStatic(TypeMirror type, Tree initializer) {
        if (type.getKind() == TypeKind.ARRAY) {
            return STATIC_ROWS.contains(((ArrayType) type).getComponentType().getKind())
                    && initializer.getKind() == Tree.Kind.NEW_ARRAY;
        }
        return STATIC_NUMBERS.contains(type.getKind()) || "java.lang.String".equals(String.valueOf(type));
    }

    // ---- calls

    @Override public Void visitMethodInvocation(MethodInvocationTree call, Void v) {
        called(call, elementOf(call.getMethodSelect()));
        return super.visitMethodInvocation(call, v);
    }

    @Override public Void visitNewClass(NewClassTree made, Void v) {
        Element e = trees.getElement(getCurrentPath());
        rule(2, made, made.getClassBody() == null);
        rule(4, made, isOwn(e));
        called(made, e);
        return super.visitNewClass(made, v);
    }

    private void called(Tree where, Element e) {
        // What a constructor begins with, if the compiler wrote it.
        if (e.toString().equals("Object()")) {
            return;
        }
        if (!isOwn(e)) {
            rule(4, where, LIBRARY.contains(e.getEnclosingElement() + "." + e));
            return;
        }
        Element caller = callerOf();
        if (caller != null) {
            calls.computeIfAbsent(caller, c -> new LinkedHashSet<>()).add(e);
        }
    }

    // ---- statements and signs

    @Override public Void visitThrow(ThrowTree t, Void v) {
        rule(6, t, false);
        return super.visitThrow(t, v);
    }

    @Override public Void visitTry(TryTree t, Void v) {
        rule(6, t, false);
        return super.visitTry(t, v);
    }

    @Override public Void visitSynchronized(SynchronizedTree t, Void v) {
        rule(6, t, false);
        return super.visitSynchronized(t, v);
    }

    @Override public Void visitAssert(AssertTree t, Void v) {
        rule(6, t, false);
        return super.visitAssert(t, v);
    }

    @Override public Void visitAnnotation(AnnotationTree t, Void v) {
        rule(4, t, false);
        return super.visitAnnotation(t, v);
    }

    @Override public Void visitLambdaExpression(LambdaExpressionTree t, Void v) {
        rule(2, t, false);
        return super.visitLambdaExpression(t, v);
    }

    @Override public Void visitMemberReference(MemberReferenceTree t, Void v) {
        rule(2, t, false);
        return super.visitMemberReference(t, v);
    }

    @Override public Void visitTypeCast(TypeCastTree t, Void v) {
        // Of objects none is cast, so none needs the test that makes it safe.
        rule(6, t, typeOf(t).getKind().isPrimitive() && typeOf(t.getExpression()).getKind().isPrimitive());
        return super.visitTypeCast(t, v);
    }

    @Override public Void visitBinary(BinaryTree b, Void v) {
        rule(b.getKind() == Tree.Kind.PLUS ? 10 : 6, b, !isText(b.getLeftOperand()) && !isText(b.getRightOperand()));
        if (b.getKind() == Tree.Kind.DIVIDE || b.getKind() == Tree.Kind.REMAINDER) {
            rule(7, b, DIVISORS.contains(b.getRightOperand().toString()));
        }
        return super.visitBinary(b, v);
    }

    @Override public Void visitLiteral(LiteralTree l, Void v) {
        String text = l.getValue() instanceof String ? (String) l.getValue() : "a";
        for (int i = 0; i < text.length(); i++) {
            rule(4, l, text.charAt(i) >= 1 && text.charAt(i) <= 127);
        }
        return super.visitLiteral(l, v);
    }

    @Override public Void visitForLoop(ForLoopTree f, Void v) {
        rule(9, f, f.getCondition() != null && !f.getUpdate().isEmpty());
        return super.visitForLoop(f, v);
    }

    @Override public Void visitWhileLoop(WhileLoopTree w, Void v) {
        rule(9, w, !w.getCondition().toString().equals("(true)"));
        return super.visitWhileLoop(w, v);
    }

    @Override public Void visitDoWhileLoop(DoWhileLoopTree w, Void v) {
        rule(9, w, !w.getCondition().toString().equals("(true)"));
        return super.visitDoWhileLoop(w, v);
    }

    @Override public Void visitAssignment(AssignmentTree a, Void v) {
        written(a, a.getVariable());
        return super.visitAssignment(a, v);
    }

    @Override public Void visitCompoundAssignment(CompoundAssignmentTree a, Void v) {
        rule(10, a, !isText(a.getVariable()));
        written(a, a.getVariable());
        return super.visitCompoundAssignment(a, v);
    }

    @Override public Void visitUnary(UnaryTree u, Void v) {
        switch (u.getKind()) {
            case PREFIX_INCREMENT:
            case PREFIX_DECREMENT:
            case POSTFIX_INCREMENT:
            case POSTFIX_DECREMENT:
                written(u, u.getExpression());
                break;
            default:
                break;
        }
        return super.visitUnary(u, v);
    }

    private void written(Tree where, ExpressionTree to) {
        ExpressionTree row = to;
        while (row instanceof ArrayAccessTree) {
            row = ((ArrayAccessTree) row).getExpression();
        }
        Element e = elementOf(row);
        rule(5, where, e == null || !e.getModifiers().contains(Modifier.STATIC));
    }

    // ---- who calls whom

    private Set<Element> allCalledBy(Element from) {
        Set<Element> found = new HashSet<>();
        List<Element> open = new ArrayList<>(calls.getOrDefault(from, Set.of()));
        while (!open.isEmpty()) {
            Element e = open.remove(open.size() - 1);
            if (found.add(e)) {
                open.addAll(calls.getOrDefault(e, Set.of()));
            }
        }
        return found;
    }

    /** How deep calls go from one on, all that call one another counted once each. */
    private int depthFrom(Element from, Set<Element> above) {
        int deepest = 0;
        above.add(from);
        for (Element e : calls.getOrDefault(from, Set.of())) {
            if (!above.contains(e)) {
                deepest = Math.max(deepest, depthFrom(e, above));
            }
        }
        above.remove(from);
        return deepest + 1;
    }

    private void recursion() {
        int recursive = 0;
        for (Element e : calls.keySet()) {
            if (allCalledBy(e).contains(e)) {
                recursive++;
                Check.holds("rule 8: " + e + " calls itself, so it is private",
                        e.getModifiers().contains(Modifier.PRIVATE));
            }
            Check.holds("rule 11: from " + e + " calls go " + DEEPEST + " deep at most",
                    depthFrom(e, new HashSet<>()) <= DEEPEST);
        }
        Check.due("methods that call themselves: readE, readF, perform, runBody", recursive, 4);
    }

    public static void main(String[] args) throws IOException {
        Check.group("LANGUAGE.md");
        JavaCompiler compiler = ToolProvider.getSystemJavaCompiler();
        try (StandardJavaFileManager files = compiler.getStandardFileManager(null, null, null)) {
            JavacTask task = (JavacTask) compiler.getTask(null, files, null, List.of("--release", "17", "-proc:none"),
                    null, files.getJavaFileObjects(Path.of(SOURCE)));
            Iterable<? extends CompilationUnitTree> units = task.parse();
            task.analyze();
            for (CompilationUnitTree unit : units) {
                RulesTest rules = new RulesTest(unit, Trees.instance(task));
                Check.holds("rule 4: no import", unit.getImports().isEmpty());
                Check.holds("no package line", unit.getPackageName() == null);
                rules.scan(unit, null);
                rules.recursion();
                Check.holds("rule 11: " + rules.classes + " classes", rules.classes <= CLASSES);
            }
        }
        Check.end("RulesTest");
    }
}
