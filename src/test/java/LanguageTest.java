import com.sun.source.tree.BinaryTree;
import com.sun.source.tree.ClassTree;
import com.sun.source.tree.CompilationUnitTree;
import com.sun.source.tree.ImportTree;
import com.sun.source.tree.MethodInvocationTree;
import com.sun.source.tree.MethodTree;
import com.sun.source.tree.NewClassTree;
import com.sun.source.tree.ThrowTree;
import com.sun.source.tree.Tree;
import com.sun.source.tree.VariableTree;
import com.sun.source.util.JavacTask;
import com.sun.source.util.SourcePositions;
import com.sun.source.util.TreeScanner;
import com.sun.source.util.Trees;
import java.io.IOException;
import java.nio.file.Files;
import java.nio.file.Path;
import java.util.ArrayList;
import java.util.EnumSet;
import java.util.List;
import java.util.Map;
import java.util.Set;
import java.util.TreeMap;
import java.util.TreeSet;
import javax.lang.model.element.Modifier;
import javax.tools.JavaCompiler;
import javax.tools.StandardJavaFileManager;
import javax.tools.ToolProvider;

/** Those rules of LANGUAGE.md that a look at the source tells; the rule's number stands ahead of each check. */
public final class LanguageTest {
    private static final Path SOURCE = Path.of("src/main/java/SlantYard.java");
    private static final String OUTER = "SlantYard";

    /** What the class uses of what rule 4 allows; whoever needs more of it adds it here. */
    private static final Set<String> IMPORTS = Set.of("java.util.Arrays");
    private static final Set<String> LIBRARY = Set.of("Arrays.fill", "Math.max", "Math.min");
    private static final Set<String> EXCEPTIONS =
        Set.of("IllegalStateException", "IllegalArgumentException", "IndexOutOfBoundsException");
    private static final Set<String> STATIC_TYPES =
        Set.of("int", "long", "boolean", "char", "String", "int[]", "long[]", "char[]", "byte[]");
    private static final Set<Tree.Kind> NEVER = EnumSet.of(Tree.Kind.LAMBDA_EXPRESSION, Tree.Kind.MEMBER_REFERENCE,
        Tree.Kind.SYNCHRONIZED, Tree.Kind.ASSERT, Tree.Kind.TRY, Tree.Kind.CATCH);

    private static final int MOST_CLASSES = 12;
    private static final int MOST_FIELDS = 20;
    private static final int MOST_PARAMETERS = 7;
    private static final int MOST_LINES = 60;
    private static final int MOST_DEEP = 8;

    private final Checks checks = new Checks();
    private final Map<String, Set<String>> callsOf = new TreeMap<>();
    private final Set<String> publicNames = new TreeSet<>();
    private final Set<String> privateNames = new TreeSet<>();
    private final List<ClassTree> classes = new ArrayList<>();
    private SourcePositions positions;
    private CompilationUnitTree unit;

    private void read() throws IOException {
        JavaCompiler compiler = ToolProvider.getSystemJavaCompiler();
        try (StandardJavaFileManager files = compiler.getStandardFileManager(null, null, null)) {
            JavacTask task = (JavacTask) compiler.getTask(null, files, null, null, null, files.getJavaFileObjects(SOURCE));
            positions = Trees.instance(task).getSourcePositions();
            unit = task.parse().iterator().next();
            unit.accept(new Reader(), null);
        }
    }

    private long lineOf(long position) {
        return unit.getLineMap().getLineNumber(position);
    }

    private String at(Tree tree) {
        return ", line " + lineOf(positions.getStartPosition(unit, tree));
    }

    /** Looks at each part of the source once; gathers who calls whom. */
    private final class Reader extends TreeScanner<Void, Void> {
        private String method = "";
        private boolean constructor = false;

        @Override
        public Void scan(Tree tree, Void none) {
            if (tree != null) {
                checks.same("3, 6 no lambda, no try, no such like" + at(tree), "false",
                    String.valueOf(NEVER.contains(tree.getKind())));
            }
            return super.scan(tree, none);
        }

        @Override
        public Void visitImport(ImportTree tree, Void none) {
            checks.same("4 imported" + at(tree), "true",
                String.valueOf(IMPORTS.contains(tree.getQualifiedIdentifier().toString())));
            return super.visitImport(tree, none);
        }

        @Override
        public Void visitClass(ClassTree tree, Void none) {
            classes.add(tree);
            Set<Modifier> modifiers = tree.getModifiers().getFlags();
            boolean outer = tree.getSimpleName().contentEquals(OUTER);
            checks.same("1 modifiers of " + tree.getSimpleName(),
                outer ? "[public, final]" : "[private, static, final]", modifiers.toString());
            int fields = 0;
            for (Tree member : tree.getMembers()) {
                if (member instanceof VariableTree && isStatic((VariableTree) member)) {
                    constant((VariableTree) member);
                } else if (member instanceof VariableTree) {
                    fields++;
                    checks.same("1 a field is private" + at(member), "true",
                        String.valueOf(((VariableTree) member).getModifiers().getFlags().contains(Modifier.PRIVATE)));
                }
                checks.same("5 no static initialiser" + at(member), "false",
                    String.valueOf(member.getKind() == Tree.Kind.BLOCK));
            }
            checks.same("11 few fields in " + tree.getSimpleName(), "true", String.valueOf(fields <= MOST_FIELDS));
            return super.visitClass(tree, none);
        }

        private boolean isStatic(VariableTree field) {
            return field.getModifiers().getFlags().contains(Modifier.STATIC);
        }

        private void constant(VariableTree field) {
            checks.same("5 a static field is final" + at(field), "true",
                String.valueOf(field.getModifiers().getFlags().contains(Modifier.FINAL)));
            checks.same("5 the type of a static field" + at(field), "true",
                String.valueOf(STATIC_TYPES.contains(field.getType().toString())));
        }

        @Override
        public Void visitMethod(MethodTree tree, Void none) {
            method = tree.getName().toString();
            constructor = tree.getReturnType() == null;
            long lines = lineOf(positions.getEndPosition(unit, tree)) - lineOf(positions.getStartPosition(unit, tree)) + 1;
            checks.same("11 short: " + method, "true", String.valueOf(lines <= MOST_LINES));
            checks.same("11 few parameters: " + method, "true",
                String.valueOf(tree.getParameters().size() <= MOST_PARAMETERS));
            if (!constructor) {
                checks.same("two methods bear the name " + method + ", so their depth is not told", "false",
                    String.valueOf(callsOf.containsKey(method)));
                callsOf.put(method, new TreeSet<>());
                boolean open = tree.getModifiers().getFlags().contains(Modifier.PUBLIC);
                (open ? publicNames : privateNames).add(method);
            }
            return super.visitMethod(tree, none);
        }

        @Override
        public Void visitMethodInvocation(MethodInvocationTree tree, Void none) {
            String called = tree.getMethodSelect().toString();
            String last = called.substring(called.lastIndexOf('.') + 1);
            if (!called.equals("super") && !LIBRARY.contains(called)) {
                checks.same("12 a constructor calls nothing" + at(tree), "false", String.valueOf(constructor));
                callsOf.computeIfAbsent(method, name -> new TreeSet<>()).add(last);
            }
            return super.visitMethodInvocation(tree, none);
        }

        @Override
        public Void visitThrow(ThrowTree tree, Void none) {
            checks.same("6 no throw in a constructor" + at(tree), "false", String.valueOf(constructor));
            boolean made = tree.getExpression() instanceof NewClassTree;
            checks.same("6 throw new" + at(tree), "true", String.valueOf(made));
            return super.visitThrow(tree, none);
        }

        @Override
        public Void visitNewClass(NewClassTree tree, Void none) {
            String name = tree.getIdentifier().toString();
            checks.same("12 but for exceptions only constructors make objects" + at(tree), "true",
                String.valueOf(constructor || EXCEPTIONS.contains(name)));
            return super.visitNewClass(tree, none);
        }

        @Override
        public Void visitBinary(BinaryTree tree, Void none) {
            boolean text = tree.getLeftOperand().getKind() == Tree.Kind.STRING_LITERAL
                || tree.getRightOperand().getKind() == Tree.Kind.STRING_LITERAL;
            checks.same("3, 10 no two Strings are compared or joined" + at(tree), "false", String.valueOf(text));
            return super.visitBinary(tree, none);
        }
    }

    /** How many calls stand open at once, from this one on; more than the bound if one calls itself again. */
    private int depth(String name, int open) {
        if (open > MOST_DEEP) {
            return open;
        }
        int deepest = open;
        for (String called : callsOf.getOrDefault(name, Set.of())) {
            checks.same("4 " + name + " calls " + called + ", of the class", "true",
                String.valueOf(callsOf.containsKey(called)));
            deepest = Math.max(deepest, depth(called, open + 1));
        }
        return deepest;
    }

    private void depths() {
        for (String name : publicNames) {
            int deep = depth(name, 1);
            checks.same("8, 11 calls of " + name + " go at most eight deep, not " + deep, "true",
                String.valueOf(deep <= MOST_DEEP));
        }
    }

    private void names() {
        for (String name : privateNames) {
            checks.same("1 no private method bears the name of a public one: " + name, "false",
                String.valueOf(publicNames.contains(name)));
        }
        checks.same("11 few classes", "true", String.valueOf(classes.size() <= MOST_CLASSES));
        checks.same("1 one class besides those inside", "1", String.valueOf(unit.getTypeDecls().size()));
        checks.same("1 no package", "null", String.valueOf(unit.getPackageName()));
    }

    private void signs() throws IOException {
        for (int sign : Files.readString(SOURCE).chars().toArray()) {
            if (sign > 126 || sign < 32 && sign != '\n') {
                checks.same("4 signs are 1 to 127", "none other", String.valueOf(sign));
            }
        }
    }

    public static void main(String[] args) throws IOException {
        LanguageTest test = new LanguageTest();
        test.read();
        test.names();
        test.depths();
        test.signs();
        test.checks.end();
    }
}
