import com.sun.source.tree.ArrayAccessTree;
import com.sun.source.tree.AssertTree;
import com.sun.source.tree.BinaryTree;
import com.sun.source.tree.CatchTree;
import com.sun.source.tree.ClassTree;
import com.sun.source.tree.CompilationUnitTree;
import com.sun.source.tree.CompoundAssignmentTree;
import com.sun.source.tree.DoWhileLoopTree;
import com.sun.source.tree.EnhancedForLoopTree;
import com.sun.source.tree.ExpressionTree;
import com.sun.source.tree.ForLoopTree;
import com.sun.source.tree.ImportTree;
import com.sun.source.tree.LambdaExpressionTree;
import com.sun.source.tree.LiteralTree;
import com.sun.source.tree.MemberReferenceTree;
import com.sun.source.tree.MemberSelectTree;
import com.sun.source.tree.MethodInvocationTree;
import com.sun.source.tree.MethodTree;
import com.sun.source.tree.NewArrayTree;
import com.sun.source.tree.NewClassTree;
import com.sun.source.tree.PackageTree;
import com.sun.source.tree.SynchronizedTree;
import com.sun.source.tree.ThrowTree;
import com.sun.source.tree.Tree;
import com.sun.source.tree.TryTree;
import com.sun.source.tree.TypeCastTree;
import com.sun.source.tree.VariableTree;
import com.sun.source.tree.WhileLoopTree;
import com.sun.source.util.JavacTask;
import com.sun.source.util.TreePath;
import com.sun.source.util.TreePathScanner;
import com.sun.source.util.Trees;
import java.io.IOException;
import java.net.URI;
import java.util.ArrayList;
import java.util.HashSet;
import java.util.LinkedHashMap;
import java.util.LinkedHashSet;
import java.util.List;
import java.util.Map;
import java.util.Set;
import javax.lang.model.element.Element;
import javax.lang.model.element.ElementKind;
import javax.lang.model.element.ExecutableElement;
import javax.lang.model.element.Modifier;
import javax.lang.model.element.TypeElement;
import javax.lang.model.element.VariableElement;
import javax.lang.model.type.ArrayType;
import javax.lang.model.type.TypeKind;
import javax.lang.model.type.TypeMirror;
import javax.tools.JavaCompiler;
import javax.tools.JavaFileObject;
import javax.tools.SimpleJavaFileObject;
import javax.tools.ToolProvider;

/** Reads a source with the compiler's own parser and tells where it leaves the rules of ../shared/LANGUAGE.md. */
final class Language extends TreePathScanner<Void, Void> {
    private static final int MOST_CLASSES = 12;
    private static final int MOST_FIELDS = 20;
    private static final int MOST_PARAMETERS = 7;
    private static final int MOST_LINES = 60;
    private static final int MOST_DEEP = 8;

    private static final Set<String> LIBRARY = Set.of("String.length", "String.charAt", "String.isEmpty", "String.equals",
            "String.indexOf", "String.substring", "String.toCharArray", "StringBuilder.append", "StringBuilder.charAt",
            "StringBuilder.setCharAt", "StringBuilder.setLength", "StringBuilder.deleteCharAt", "StringBuilder.reverse",
            "StringBuilder.length", "StringBuilder.toString", "ArrayList.add", "ArrayList.get", "ArrayList.set",
            "ArrayList.remove", "ArrayList.size", "ArrayList.isEmpty", "ArrayList.clear", "List.add", "List.get", "List.set",
            "List.remove", "List.size", "List.isEmpty", "List.clear", "List.of", "System.arraycopy", "Arrays.copyOf",
            "Arrays.copyOfRange", "Arrays.fill");
    private static final Set<String> STATICS = Set.of("Integer", "Long", "Math");
    private static final Set<String> IMPORTS = Set.of("java.util.NoSuchElementException", "java.util.ArrayList",
            "java.util.List", "java.util.Arrays", "java.util.Iterator");
    private static final Set<String> TYPES = Set.of("int", "long", "short", "byte", "char", "boolean", "double", "float",
            "java.lang.String", "java.lang.StringBuilder", "java.lang.Integer");
    private static final Set<String> EXCEPTIONS = Set.of("IllegalStateException", "IllegalArgumentException",
            "IndexOutOfBoundsException", "ArithmeticException", "UnsupportedOperationException", "NoSuchElementException",
            "RuntimeException");

    private final Trees trees;
    private final CompilationUnitTree unit;
    private final Set<String> broken = new LinkedHashSet<>();
    private final Set<TypeElement> own = new LinkedHashSet<>();
    private final Map<ExecutableElement, Set<ExecutableElement>> calls = new LinkedHashMap<>();
    private ExecutableElement method;

    private Language(JavacTask task) throws IOException {
        trees = Trees.instance(task);
        unit = task.parse().iterator().next();
        task.analyze();
    }

    /** Where the source leaves a rule: 'rule 8: ..', 'rule 11: ..'. */
    static Set<String> broken(String source) throws IOException {
        JavaCompiler compiler = ToolProvider.getSystemJavaCompiler();
        JavaFileObject file = new SimpleJavaFileObject(URI.create("string:///HiccupTown.java"), JavaFileObject.Kind.SOURCE) {
            @Override
            public CharSequence getCharContent(boolean ignore) {
                return source;
            }
        };
        List<String> faults = new ArrayList<>();
        JavacTask task = (JavacTask) compiler.getTask(null, null, d -> faults.add(d.getMessage(null)),
                List.of("-proc:none"), null, List.of(file));
        Language language = new Language(task);
        for (String fault : faults) {
            language.broken.add("rule 0: it does not compile: " + fault);
        }
        TreePath path = new TreePath(language.unit);
        language.new Classes().scan(path, null);
        language.scan(path, null);
        language.judgeCalls();
        return language.broken;
    }

    /** The classes of the file, told ahead of all else so that a use ahead of its class is known. */
    private final class Classes extends TreePathScanner<Void, Void> {
        @Override
        public Void visitClass(ClassTree tree, Void none) {
            own.add((TypeElement) trees.getElement(getCurrentPath()));
            return super.visitClass(tree, none);
        }
    }

    private void tell(int rule, String what, Tree where) {
        long start = trees.getSourcePositions().getStartPosition(unit, where);
        broken.add("rule " + rule + ": " + what + ", line " + unit.getLineMap().getLineNumber(start));
    }

    private void tellIf(boolean wrong, int rule, String what, Tree where) {
        if (wrong) {
            tell(rule, what, where);
        }
    }

    private TypeMirror typeOf(Tree tree) {
        return trees.getTypeMirror(new TreePath(getCurrentPath(), tree));
    }

    private Element elementOf(Tree tree) {
        return trees.getElement(new TreePath(getCurrentPath(), tree));
    }

    private boolean isOwn(TypeMirror type) {
        return own.stream().anyMatch(e -> e.asType().toString().equals(String.valueOf(type)));
    }

    private static boolean isText(TypeMirror type) {
        return "java.lang.String".equals(String.valueOf(type));
    }

    private boolean isConstant(Tree tree) {
        Element element = elementOf(tree);
        return tree instanceof LiteralTree
                || element instanceof VariableElement && ((VariableElement) element).getConstantValue() != null
                || tree instanceof BinaryTree && isConstant(((BinaryTree) tree).getLeftOperand())
                        && isConstant(((BinaryTree) tree).getRightOperand());
    }

    private long linesOf(Tree tree) {
        long start = trees.getSourcePositions().getStartPosition(unit, tree);
        long end = trees.getSourcePositions().getEndPosition(unit, tree);
        return 1 + unit.getLineMap().getLineNumber(end) - unit.getLineMap().getLineNumber(start);
    }

    // What a method calls, and how deep.

    private void judgeCalls() {
        for (ExecutableElement from : calls.keySet()) {
            if (reached(from).contains(from)) {
                boolean carries = from.getParameters().stream().anyMatch(p -> p.getSimpleName().contentEquals("depth"));
                if (!from.getModifiers().contains(Modifier.PRIVATE) || !carries) {
                    broken.add("rule 8: " + from + " calls itself, is not private or carries no depth");
                }
            }
            if (deepest(from, new HashSet<>()) > MOST_DEEP) {
                broken.add("rule 11: calls more than eight deep from " + from);
            }
        }
    }

    private Set<ExecutableElement> reached(ExecutableElement from) {
        Set<ExecutableElement> found = new LinkedHashSet<>();
        List<ExecutableElement> next = new ArrayList<>(calls.get(from));
        while (!next.isEmpty()) {
            ExecutableElement one = next.remove(next.size() - 1);
            if (found.add(one)) {
                next.addAll(calls.getOrDefault(one, Set.of()));
            }
        }
        return found;
    }

    /** How many stand open at once, those of a recursion once each. */
    private int deepest(ExecutableElement from, Set<ExecutableElement> open) {
        int most = 0;
        open.add(from);
        for (ExecutableElement to : calls.getOrDefault(from, Set.of())) {
            if (!open.contains(to)) {
                most = Math.max(most, deepest(to, open));
            }
        }
        open.remove(from);
        return 1 + most;
    }

    private void call(ExecutableElement to) {
        if (method != null && own.contains(to.getEnclosingElement())) {
            calls.get(method).add(to);
        }
    }

    @Override
    public Void visitMethodInvocation(MethodInvocationTree tree, Void none) {
        ExecutableElement to = (ExecutableElement) trees.getElement(getCurrentPath());
        Element owner = to.getEnclosingElement();
        String name = owner.getSimpleName() + "." + to.getSimpleName();
        boolean mayBe = own.contains(owner) || LIBRARY.contains(name) || name.equals("Object.<init>") || name.equals("Enum.<init>")
                || name.endsWith(".clone") || STATICS.contains(owner.getSimpleName().toString())
                        && to.getModifiers().contains(Modifier.STATIC) && !name.endsWith("Exact") && !name.endsWith(".random");
        tellIf(!mayBe, 4, name + " is called", tree);
        call(to);
        return super.visitMethodInvocation(tree, none);
    }

    @Override
    public Void visitNewClass(NewClassTree tree, Void none) {
        boolean thrown = getCurrentPath().getParentPath().getLeaf() instanceof ThrowTree;
        if (!thrown) {
            String type = String.valueOf(typeOf(tree.getIdentifier()));
            boolean mayBe = isOwn(typeOf(tree.getIdentifier())) || type.startsWith("java.util.ArrayList")
                    || type.equals("java.lang.StringBuilder") || type.equals("java.lang.String");
            tellIf(!mayBe, 4, "new " + type, tree);
            boolean inMethod = method != null && method.getKind() == ElementKind.METHOD;
            tellIf(inMethod, 12, "an object is made by a call", tree);
            call((ExecutableElement) trees.getElement(getCurrentPath()));
        }
        return super.visitNewClass(tree, none);
    }

    @Override
    public Void visitNewArray(NewArrayTree tree, Void none) {
        for (ExpressionTree length : tree.getDimensions()) {
            tellIf(!isConstant(length), 7, "an array's length that is no constant", tree);
        }
        tellIf(method != null && method.getKind() == ElementKind.METHOD, 12, "an array is made by a call", tree);
        return super.visitNewArray(tree, none);
    }

    // Classes, members and their types.

    @Override
    public Void visitCompilationUnit(CompilationUnitTree tree, Void none) {
        tellIf(own.size() > MOST_CLASSES, 11, own.size() + " classes", tree);
        return super.visitCompilationUnit(tree, none);
    }

    @Override
    public Void visitPackage(PackageTree tree, Void none) {
        tell(0, "a package line", tree);
        return super.visitPackage(tree, none);
    }

    @Override
    public Void visitImport(ImportTree tree, Void none) {
        tellIf(!IMPORTS.contains(tree.getQualifiedIdentifier().toString()), 4, "import " + tree.getQualifiedIdentifier(), tree);
        return super.visitImport(tree, none);
    }

    @Override
    public Void visitClass(ClassTree tree, Void none) {
        TypeElement type = (TypeElement) trees.getElement(getCurrentPath());
        long fields = type.getEnclosedElements().stream().filter(e -> e.getKind() == ElementKind.FIELD)
                .filter(e -> !e.getModifiers().contains(Modifier.STATIC)).count();
        tellIf(fields > MOST_FIELDS, 11, fields + " fields", tree);
        tellIf(type.getEnclosingElement() instanceof ExecutableElement, 2, "a class inside a method", tree);
        boolean opened = type.getModifiers().contains(Modifier.PUBLIC) || type.getModifiers().contains(Modifier.PROTECTED);
        tellIf(opened && type.getEnclosingElement() instanceof TypeElement, 1, "a class inside that is open", tree);
        for (Tree member : tree.getMembers()) {
            tellIf(member.getKind() == Tree.Kind.BLOCK, 5, "an initialiser block", member);
        }
        ExecutableElement outer = method;
        method = null;
        super.visitClass(tree, none);
        method = outer;
        return null;
    }

    @Override
    public Void visitMethod(MethodTree tree, Void none) {
        tellIf(tree.getParameters().size() > MOST_PARAMETERS, 11, tree.getParameters().size() + " parameters", tree);
        tellIf(linesOf(tree) > MOST_LINES, 11, linesOf(tree) + " lines in one method", tree);
        tellIf(Set.of("equals", "hashCode", "toString").contains(tree.getName().toString()), 6, tree.getName() + " is told", tree);
        tellIf(tree.getModifiers().getFlags().contains(Modifier.SYNCHRONIZED), 6, "synchronized", tree);
        ExecutableElement outer = method;
        method = (ExecutableElement) trees.getElement(getCurrentPath());
        calls.put(method, new LinkedHashSet<>());
        super.visitMethod(tree, none);
        method = outer;
        return null;
    }

    @Override
    public Void visitVariable(VariableTree tree, Void none) {
        VariableElement variable = (VariableElement) trees.getElement(getCurrentPath());
        if (variable.getKind() != ElementKind.ENUM_CONSTANT) {
            tellIf(!isType(variable.asType()), 3, "a variable of type " + variable.asType(), tree);
            if (variable.getModifiers().contains(Modifier.STATIC)) {
                judgeStatic(variable, tree);
            }
        }
        return super.visitVariable(tree, none);
    }

    private boolean isType(TypeMirror type) {
        if (type.getKind() == TypeKind.ARRAY) {
            TypeMirror part = ((ArrayType) type).getComponentType();
            boolean rows = part.getKind() == TypeKind.ARRAY && ((ArrayType) part).getComponentType().getKind().isPrimitive();
            return rows || part.getKind().isPrimitive() || isOwn(part);
        }
        String name = type.toString();
        boolean list = name.matches("java\\.util\\.(ArrayList|List)<.*>");
        return TYPES.contains(name) || isOwn(type) || list || name.startsWith("java.util.Iterator<java.lang.Integer>");
    }

    private void judgeStatic(VariableElement variable, VariableTree tree) {
        TypeMirror type = variable.asType();
        boolean written = type.getKind() == TypeKind.ARRAY && ((ArrayType) type).getComponentType().getKind().isPrimitive()
                && tree.getInitializer() instanceof NewArrayTree && ((NewArrayTree) tree.getInitializer()).getInitializers() != null;
        boolean allValues = String.valueOf(tree.getInitializer()).equals("values()");
        boolean mayBe = variable.getModifiers().contains(Modifier.FINAL)
                && (variable.getConstantValue() != null || written || allValues);
        tellIf(!mayBe, 5, "static " + variable, tree);
    }

    // Statements and expressions.

    @Override
    public Void visitLambdaExpression(LambdaExpressionTree tree, Void none) {
        tell(2, "a lambda", tree);
        return super.visitLambdaExpression(tree, none);
    }

    @Override
    public Void visitMemberReference(MemberReferenceTree tree, Void none) {
        tell(2, "a method reference", tree);
        return super.visitMemberReference(tree, none);
    }

    @Override
    public Void visitLiteral(LiteralTree tree, Void none) {
        boolean plain = !(tree.getValue() instanceof String)
                || ((String) tree.getValue()).chars().allMatch(c -> c >= 1 && c <= 127);
        tellIf(!plain, 4, "a sign in a text that is not 1 to 127", tree);
        return super.visitLiteral(tree, none);
    }

    @Override
    public Void visitTry(TryTree tree, Void none) {
        tellIf(tree.getFinallyBlock() != null || !tree.getResources().isEmpty(), 6, "finally, or try with resources", tree);
        return super.visitTry(tree, none);
    }

    @Override
    public Void visitCatch(CatchTree tree, Void none) {
        Element type = elementOf(tree.getParameter());
        String name = type == null ? "" : type.asType().toString().replaceAll(".*\\.", "");
        // What the machine throws itself, or a class above it, is never caught.
        tellIf(!EXCEPTIONS.contains(name) || Set.of("ArithmeticException", "IndexOutOfBoundsException", "RuntimeException")
                .contains(name), 6, "catch of " + name, tree);
        return super.visitCatch(tree, none);
    }

    @Override
    public Void visitThrow(ThrowTree tree, Void none) {
        tellIf(method != null && method.getKind() == ElementKind.CONSTRUCTOR, 6, "a throw in a constructor", tree);
        boolean plain = false;
        if (tree.getExpression() instanceof NewClassTree) {
            NewClassTree made = (NewClassTree) tree.getExpression();
            plain = EXCEPTIONS.contains(made.getIdentifier().toString())
                    && made.getArguments().stream().allMatch(a -> a instanceof LiteralTree);
        }
        tellIf(!plain, 6, "throws " + tree.getExpression(), tree);
        return super.visitThrow(tree, none);
    }

    @Override
    public Void visitSynchronized(SynchronizedTree tree, Void none) {
        tell(6, "synchronized", tree);
        return super.visitSynchronized(tree, none);
    }

    @Override
    public Void visitAssert(AssertTree tree, Void none) {
        tell(6, "assert", tree);
        return super.visitAssert(tree, none);
    }

    @Override
    public Void visitTypeCast(TypeCastTree tree, Void none) {
        tellIf(!typeOf(tree.getType()).getKind().isPrimitive(), 7, "a cast of an object", tree);
        return super.visitTypeCast(tree, none);
    }

    @Override
    public Void visitMemberSelect(MemberSelectTree tree, Void none) {
        // An object that stands in a row may be null until it is compared.
        boolean untested = tree.getExpression() instanceof ArrayAccessTree
                && typeOf(tree.getExpression()).getKind() == TypeKind.DECLARED && !inConstructor();
        tellIf(untested, 7, "'" + tree + "' is used untested", tree);
        return super.visitMemberSelect(tree, none);
    }

    private boolean inConstructor() {
        return method != null && method.getKind() == ElementKind.CONSTRUCTOR;
    }

    @Override
    public Void visitBinary(BinaryTree tree, Void none) {
        TypeMirror left = typeOf(tree.getLeftOperand());
        TypeMirror right = typeOf(tree.getRightOperand());
        if (tree.getKind() == Tree.Kind.PLUS) {
            tellIf(isText(left) || isText(right), 10, "texts joined by +", tree);
        } else if (tree.getKind() == Tree.Kind.EQUAL_TO || tree.getKind() == Tree.Kind.NOT_EQUAL_TO) {
            tellIf(isText(left) && isText(right), 6, "texts compared by their place", tree);
        } else if (tree.getKind() == Tree.Kind.DIVIDE || tree.getKind() == Tree.Kind.REMAINDER) {
            judgeDivisor(tree.getRightOperand(), tree);
        }
        return super.visitBinary(tree, none);
    }

    @Override
    public Void visitCompoundAssignment(CompoundAssignmentTree tree, Void none) {
        tellIf(isText(typeOf(tree.getVariable())), 10, "texts joined by +=", tree);
        if (tree.getKind() == Tree.Kind.DIVIDE_ASSIGNMENT || tree.getKind() == Tree.Kind.REMAINDER_ASSIGNMENT) {
            judgeDivisor(tree.getExpression(), tree);
        }
        return super.visitCompoundAssignment(tree, none);
    }

    /** A divisor is a number that is written, or is compared just there: 'd <= 0 ? .. : n % d'. */
    private void judgeDivisor(ExpressionTree divisor, Tree where) {
        boolean compared = getCurrentPath().getParentPath().getLeaf().toString().startsWith(divisor + " <= 0 ?")
                || getCurrentPath().getParentPath().getLeaf().toString().startsWith("return " + divisor + " <= 0 ?");
        tellIf(!isConstant(divisor) && !compared, 7, "a divisor that is not looked at", where);
    }

    // Loops that end by what stands in their own lines.

    @Override
    public Void visitWhileLoop(WhileLoopTree tree, Void none) {
        tellIf(!tree.getCondition().toString().contains("<"), 9, "a while without a bound", tree);
        return super.visitWhileLoop(tree, none);
    }

    @Override
    public Void visitDoWhileLoop(DoWhileLoopTree tree, Void none) {
        tellIf(!tree.getCondition().toString().contains("<"), 9, "a do without a bound", tree);
        return super.visitDoWhileLoop(tree, none);
    }

    @Override
    public Void visitForLoop(ForLoopTree tree, Void none) {
        boolean bound = tree.getCondition() != null && tree.getCondition().toString().matches("(?s).*[<>].*");
        tellIf(!bound || tree.getUpdate().isEmpty(), 9, "a for without a bound", tree);
        return super.visitForLoop(tree, none);
    }

    @Override
    public Void visitEnhancedForLoop(EnhancedForLoopTree tree, Void none) {
        tellIf(typeOf(tree.getExpression()).getKind() != TypeKind.ARRAY, 12, "a for over a list", tree);
        return super.visitEnhancedForLoop(tree, none);
    }
}
