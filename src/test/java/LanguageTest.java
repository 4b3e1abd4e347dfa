import com.sun.source.tree.BinaryTree;
import com.sun.source.tree.ClassTree;
import com.sun.source.tree.CompilationUnitTree;
import com.sun.source.tree.ConditionalExpressionTree;
import com.sun.source.tree.ForLoopTree;
import com.sun.source.tree.ImportTree;
import com.sun.source.tree.MemberSelectTree;
import com.sun.source.tree.MethodInvocationTree;
import com.sun.source.tree.MethodTree;
import com.sun.source.tree.NewArrayTree;
import com.sun.source.tree.NewClassTree;
import com.sun.source.tree.Tree;
import com.sun.source.tree.VariableTree;
import com.sun.source.util.JavacTask;
import com.sun.source.util.TreePath;
import com.sun.source.util.TreePathScanner;
import com.sun.source.util.TreeScanner;
import com.sun.source.util.Trees;
import java.io.IOException;
import java.nio.charset.StandardCharsets;
import java.nio.file.Files;
import java.nio.file.Path;
import java.util.ArrayDeque;
import java.util.ArrayList;
import java.util.Deque;
import java.util.EnumSet;
import java.util.HashMap;
import java.util.LinkedHashMap;
import java.util.LinkedHashSet;
import java.util.List;
import java.util.Map;
import java.util.Set;
import javax.lang.model.element.Element;
import javax.lang.model.element.ElementKind;
import javax.lang.model.element.ExecutableElement;
import javax.lang.model.element.Modifier;
import javax.lang.model.element.VariableElement;
import javax.lang.model.type.ArrayType;
import javax.lang.model.type.TypeKind;
import javax.lang.model.type.TypeMirror;
import javax.tools.JavaCompiler;
import javax.tools.StandardJavaFileManager;
import javax.tools.ToolProvider;

/**
 * LANGUAGE.md, rule by rule, by the tree that the compiler makes of the program. It asks for more
 * than some rules do, where the program needs less: no exception, no text, no recursion, no double,
 * no loop but a counted one, and nothing made outside constructors. FaceTest has rule 1, WildTest and
 * RoomTest see to rules 7 and 12 in running calls. Run from the project's directory.
 */
public final class LanguageTest extends TreePathScanner<Void, Void> {
    private static final Path PROGRAM = Path.of("src/main/java/ProgramSlices.java");
    private static final String FACE = "ProgramSlices";

    private static final int MOST_PARAMETERS = 7;
    private static final int MOST_LINES = 60;
    private static final int MOST_DEEP = 8;
    private static final int MOST_CLASSES = 12;
    private static final int MOST_FIELDS = 20;

    private static final Map<Tree.Kind, Integer> LEFT_OUT = leftOut();
    private static final Set<String> LIBRARY = Set.of(
            "java.util.Arrays.fill", "java.util.Arrays.copyOf", "java.util.Arrays.copyOfRange",
            "java.lang.System.arraycopy");
    private static final Set<String> OF_NUMBERS = Set.of("java.lang.Integer", "java.lang.Long", "java.lang.Math");
    private static final Set<TypeKind> PLAIN = EnumSet.of(TypeKind.INT, TypeKind.LONG, TypeKind.SHORT,
            TypeKind.BYTE, TypeKind.CHAR, TypeKind.BOOLEAN);

    private final Trees trees;
    private final CompilationUnitTree unit;
    private final Map<String, Set<String>> callsOf = new LinkedHashMap<>();
    private final Deque<String> methods = new ArrayDeque<>();
    private int classes = 0;
    private int loops = 0;

    private LanguageTest(Trees trees, CompilationUnitTree unit) {
        this.trees = trees;
        this.unit = unit;
    }

    public static void main(String[] args) throws IOException {
        JavaCompiler compiler = ToolProvider.getSystemJavaCompiler();
        try (StandardJavaFileManager files = compiler.getStandardFileManager(null, null, StandardCharsets.UTF_8)) {
            JavacTask task = (JavacTask) compiler.getTask(
                    null, files, null, List.of("-proc:none"), null, files.getJavaFileObjects(PROGRAM));
            CompilationUnitTree unit = task.parse().iterator().next();
            task.analyze();
            LanguageTest test = new LanguageTest(Trees.instance(task), unit);
            test.scan(unit, null);
            test.sizes();
            test.depth();
        }
        onlyPlainCharacters();
        Expect.finish();
    }

    private static Map<Tree.Kind, Integer> leftOut() {
        Map<Tree.Kind, Integer> rules = new HashMap<>();
        rules.put(Tree.Kind.PACKAGE, 0);
        rules.put(Tree.Kind.LAMBDA_EXPRESSION, 2);
        rules.put(Tree.Kind.MEMBER_REFERENCE, 2);
        rules.put(Tree.Kind.STRING_LITERAL, 3);
        rules.put(Tree.Kind.DOUBLE_LITERAL, 3);
        rules.put(Tree.Kind.FLOAT_LITERAL, 3);
        rules.put(Tree.Kind.THROW, 6);
        rules.put(Tree.Kind.TRY, 6);
        rules.put(Tree.Kind.CATCH, 6);
        rules.put(Tree.Kind.SYNCHRONIZED, 6);
        rules.put(Tree.Kind.ASSERT, 6);
        rules.put(Tree.Kind.INSTANCE_OF, 6);
        rules.put(Tree.Kind.BINDING_PATTERN, 6);
        rules.put(Tree.Kind.WHILE_LOOP, 9);
        rules.put(Tree.Kind.DO_WHILE_LOOP, 9);
        rules.put(Tree.Kind.NULL_LITERAL, 7);
        return rules;
    }

    private String at(Tree tree) {
        long start = trees.getSourcePositions().getStartPosition(unit, tree);
        String text = tree.toString().strip();
        int end = text.indexOf('\n');
        return "line " + unit.getLineMap().getLineNumber(start) + ": " + (end < 0 ? text : text.substring(0, end));
    }

    private void rule(int number, Tree tree, boolean kept) {
        if (!kept) {
            Expect.same("rule " + number + ", " + at(tree), false, true);
        } else {
            Expect.same("rule " + number, true, true);
        }
    }

    @Override
    public Void scan(Tree tree, Void nothing) {
        if (tree != null) {
            rule(LEFT_OUT.getOrDefault(tree.getKind(), 0), tree, !LEFT_OUT.containsKey(tree.getKind()));
        }
        return super.scan(tree, nothing);
    }

    /** Rule 4. */
    @Override
    public Void visitImport(ImportTree tree, Void nothing) {
        rule(4, tree, !tree.isStatic() && tree.getQualifiedIdentifier().toString().equals("java.util.Arrays"));
        return super.visitImport(tree, nothing);
    }

    /** Rules 2 and 5: static classes without static blocks. Rule 11: not too many fields. */
    @Override
    public Void visitClass(ClassTree tree, Void nothing) {
        classes++;
        boolean isFace = tree.getSimpleName().contentEquals(FACE);
        Set<Modifier> flags = tree.getModifiers().getFlags();
        rule(2, tree, isFace || flags.contains(Modifier.STATIC) && flags.contains(Modifier.PRIVATE));
        rule(2, tree, isFace || getCurrentPath().getParentPath().getLeaf() instanceof ClassTree);
        int fields = 0;
        for (Tree member : tree.getMembers()) {
            rule(5, member, member.getKind() != Tree.Kind.BLOCK);
            if (member instanceof VariableTree field && !isStatic(field)) {
                fields++;
            }
        }
        rule(11, tree, fields <= MOST_FIELDS);
        return super.visitClass(tree, nothing);
    }

    private static boolean isStatic(VariableTree field) {
        return field.getModifiers().getFlags().contains(Modifier.STATIC);
    }

    /** Rule 3: the types. Rule 5: a static field is a constant. */
    @Override
    public Void visitVariable(VariableTree tree, Void nothing) {
        Element element = trees.getElement(getCurrentPath());
        rule(3, tree, isAllowed(element.asType()));
        if (element.getKind() == ElementKind.FIELD && isStatic(tree)) {
            boolean constant = ((VariableElement) element).getConstantValue() != null;
            rule(5, tree, constant && tree.getModifiers().getFlags().contains(Modifier.FINAL));
        }
        return super.visitVariable(tree, nothing);
    }

    private static boolean isAllowed(TypeMirror type) {
        if (type.getKind() == TypeKind.ARRAY) {
            return PLAIN.contains(((ArrayType) type).getComponentType().getKind());
        }
        return PLAIN.contains(type.getKind()) || isOwn(type.toString());
    }

    private static boolean isOwn(String name) {
        return name.equals(FACE) || name.startsWith(FACE + ".");
    }

    /** Rule 3 for what it answers, rule 11 for its length and its parameters. */
    @Override
    public Void visitMethod(MethodTree tree, Void nothing) {
        ExecutableElement element = (ExecutableElement) trees.getElement(getCurrentPath());
        TypeMirror answer = element.getReturnType();
        rule(3, tree, answer.getKind() == TypeKind.VOID || isAllowed(answer));
        long start = trees.getSourcePositions().getStartPosition(unit, tree);
        long end = trees.getSourcePositions().getEndPosition(unit, tree);
        long lines = end < 0 ? 1 : unit.getLineMap().getLineNumber(end) - unit.getLineMap().getLineNumber(start) + 1;
        rule(11, tree, lines <= MOST_LINES);
        rule(11, tree, tree.getParameters().size() <= MOST_PARAMETERS);
        rule(6, tree, tree.getThrows().isEmpty());
        methods.push(nameOf(element));
        callsOf.computeIfAbsent(methods.peek(), name -> new LinkedHashSet<>());
        super.visitMethod(tree, nothing);
        methods.pop();
        return null;
    }

    private static String nameOf(Element method) {
        return method.getEnclosingElement() + "." + method;
    }

    /** Rule 4: what it calls is its own or in the list. */
    @Override
    public Void visitMethodInvocation(MethodInvocationTree tree, Void nothing) {
        Element method = trees.getElement(new TreePath(getCurrentPath(), tree.getMethodSelect()));
        String owner = method.getEnclosingElement().toString();
        String name = method.getSimpleName().toString();
        if (isOwn(owner)) {
            noteCall(method);
        } else {
            boolean ofNumbers = OF_NUMBERS.contains(owner) && !name.endsWith("Exact") && !name.equals("random");
            boolean superConstructor = owner.equals("java.lang.Object") && name.equals("<init>");
            rule(4, tree, ofNumbers || superConstructor || LIBRARY.contains(owner + "." + name));
        }
        return super.visitMethodInvocation(tree, nothing);
    }

    private void noteCall(Element method) {
        if (!methods.isEmpty()) {
            callsOf.get(methods.peek()).add(nameOf(method));
        }
    }

    /** Rule 4: of the library no field. */
    @Override
    public Void visitMemberSelect(MemberSelectTree tree, Void nothing) {
        Element element = trees.getElement(getCurrentPath());
        if (element != null && element.getKind() == ElementKind.FIELD && !tree.getIdentifier().contentEquals("length")) {
            rule(4, tree, isOwn(element.getEnclosingElement().toString()));
        }
        return super.visitMemberSelect(tree, nothing);
    }

    /** Rules 2 and 12: nothing but own classes is made, by constructors and by what fields begin with. */
    @Override
    public Void visitNewClass(NewClassTree tree, Void nothing) {
        Element constructor = trees.getElement(getCurrentPath());
        rule(2, tree, tree.getClassBody() == null);
        rule(4, tree, isOwn(constructor.getEnclosingElement().toString()));
        rule(12, tree, isInConstruction());
        noteCall(constructor);
        return super.visitNewClass(tree, nothing);
    }

    @Override
    public Void visitNewArray(NewArrayTree tree, Void nothing) {
        rule(12, tree, isInConstruction());
        return super.visitNewArray(tree, nothing);
    }

    private boolean isInConstruction() {
        for (Tree tree : getCurrentPath()) {
            if (tree instanceof ForLoopTree) {
                return false;
            }
            if (tree instanceof MethodTree method) {
                return method.getReturnType() == null;
            }
        }
        return true;
    }

    /** Rule 7: a divisor is a constant but 0, or was looked at. */
    @Override
    public Void visitBinary(BinaryTree tree, Void nothing) {
        if (tree.getKind() == Tree.Kind.DIVIDE || tree.getKind() == Tree.Kind.REMAINDER) {
            Element divisor = trees.getElement(new TreePath(getCurrentPath(), tree.getRightOperand()));
            Object constant = divisor instanceof VariableElement variable ? variable.getConstantValue() : null;
            boolean isNumber = constant instanceof Integer number && number != 0;
            rule(7, tree, isNumber || isLookedAt(tree));
        }
        return super.visitBinary(tree, nothing);
    }

    private boolean isLookedAt(BinaryTree division) {
        Tree parent = getCurrentPath().getParentPath().getLeaf();
        return parent instanceof ConditionalExpressionTree choice && choice.getFalseExpression() == division
                && choice.getCondition().toString().equals(division.getRightOperand() + " == 0");
    }

    /** Rule 9: a counter goes up by one to a bound, and nothing else in the loop changes it. */
    @Override
    public Void visitForLoop(ForLoopTree tree, Void nothing) {
        loops++;
        boolean counts = tree.getInitializer().size() == 1 && tree.getUpdate().size() == 1
                && tree.getInitializer().get(0) instanceof VariableTree;
        rule(9, tree, counts);
        if (counts) {
            String counter = ((VariableTree) tree.getInitializer().get(0)).getName().toString();
            rule(9, tree, tree.getUpdate().get(0).toString().equals(counter + "++;"));
            rule(9, tree, hasBound(tree.getCondition(), counter));
            rule(9, tree, !changes(tree.getStatement(), counter));
        }
        return super.visitForLoop(tree, nothing);
    }

    /** The bound stands first in the condition. */
    private static boolean hasBound(Tree condition, String counter) {
        Tree first = condition;
        while (first != null && first.getKind() == Tree.Kind.CONDITIONAL_AND) {
            first = ((BinaryTree) first).getLeftOperand();
        }
        return first instanceof BinaryTree bound && bound.getLeftOperand().toString().equals(counter)
                && (bound.getKind() == Tree.Kind.LESS_THAN || bound.getKind() == Tree.Kind.LESS_THAN_EQUAL);
    }

    private static boolean changes(Tree body, String counter) {
        boolean[] changed = {false};
        new TreeScanner<Void, Void>() {
            @Override
            public Void scan(Tree tree, Void nothing) {
                String text = tree == null ? "" : tree.toString();
                changed[0] |= text.matches("(?s)" + counter + " \\S*=[^=].*|" + counter + "(\\+\\+|--)|(\\+\\+|--)" + counter);
                return super.scan(tree, nothing);
            }
        }.scan(body, null);
        return changed[0];
    }

    private void sizes() {
        Expect.same("rule 11, at most twelve classes", classes <= MOST_CLASSES, true);
        Expect.same("classes were found", classes > 1, true);
        Expect.same("methods were found", callsOf.size() > 20, true);
        Expect.same("loops were found", loops > 10, true);
    }

    /** Rule 8: there is no recursion. Rule 11: calls go at most eight deep. */
    private void depth() {
        Map<String, List<String>> chains = new HashMap<>();
        List<String> longest = List.of();
        for (String method : callsOf.keySet()) {
            List<String> chain = chainFrom(method, chains, new ArrayDeque<>());
            longest = chain.size() > longest.size() ? chain : longest;
        }
        Expect.same("rule 11, calls at most eight deep: " + longest, longest.size() <= MOST_DEEP, true);
        Expect.same("calls were followed", longest.size() > 3, true);
    }

    private List<String> chainFrom(String method, Map<String, List<String>> chains, Deque<String> open) {
        if (chains.containsKey(method)) {
            return chains.get(method);
        }
        Expect.same("rule 8, no recursion: " + method, open.contains(method), false);
        if (open.contains(method)) {
            return List.of();
        }
        open.push(method);
        List<String> longest = List.of();
        for (String called : callsOf.getOrDefault(method, Set.of())) {
            List<String> chain = chainFrom(called, chains, open);
            longest = chain.size() > longest.size() ? chain : longest;
        }
        open.pop();
        List<String> chain = new ArrayList<>(List.of(method));
        chain.addAll(longest);
        chains.put(method, chain);
        return chain;
    }

    private static void onlyPlainCharacters() throws IOException {
        for (String line : Files.readAllLines(PROGRAM)) {
            Expect.same("characters: " + line, line.chars().allMatch(c -> c >= 32 && c < 127), true);
        }
    }
}
