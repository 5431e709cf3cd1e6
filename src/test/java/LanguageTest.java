import com.sun.source.tree.*;
import com.sun.source.util.JavacTask;
import com.sun.source.util.SourcePositions;
import com.sun.source.util.TreeScanner;
import com.sun.source.util.Trees;
import java.nio.file.Path;
import java.util.*;
import javax.lang.model.element.Modifier;
import javax.tools.JavaCompiler;
import javax.tools.StandardJavaFileManager;
import javax.tools.ToolProvider;

/** Those rules of LANGUAGE.md that can be read off the source of the program. */
public final class LanguageTest {
    private static final Path PROGRAM = Path.of("src/main/java/PacketFilter.java");
    private static final Set<String> FACE = Set.of("code", "wipe", "verify", "place", "bound", "decided", "put", "cut", "packet", "enter",
        "drop", "entry", "run", "ran");
    private static final Set<Tree.Kind> FORBIDDEN = EnumSet.of(Tree.Kind.THROW, Tree.Kind.TRY, Tree.Kind.SYNCHRONIZED, Tree.Kind.ASSERT,
        Tree.Kind.INSTANCE_OF, Tree.Kind.LAMBDA_EXPRESSION, Tree.Kind.MEMBER_REFERENCE, Tree.Kind.MEMBER_SELECT, Tree.Kind.NEW_CLASS,
        Tree.Kind.NULL_LITERAL, Tree.Kind.STRING_LITERAL, Tree.Kind.DOUBLE_LITERAL, Tree.Kind.FLOAT_LITERAL, Tree.Kind.IMPORT,
        Tree.Kind.PACKAGE, Tree.Kind.ENHANCED_FOR_LOOP, Tree.Kind.INTERFACE, Tree.Kind.ENUM, Tree.Kind.RECORD);
    private static final Checks checks = new Checks();
    private static final Map<String, Set<String>> calls = new TreeMap<>();
    private static SourcePositions positions;

    public static void main(String[] args) throws Exception {
        JavaCompiler compiler = ToolProvider.getSystemJavaCompiler();
        try (StandardJavaFileManager files = compiler.getStandardFileManager(null, null, null)) {
            JavacTask task = (JavacTask) compiler.getTask(null, files, null, null, null, files.getJavaFileObjects(PROGRAM));
            positions = Trees.instance(task).getSourcePositions();
            CompilationUnitTree unit = task.parse().iterator().next();
            checks.due("one class", unit.getTypeDecls().size(), 1);
            ClassTree program = (ClassTree) unit.getTypeDecls().get(0);
            checks.due("public and final", program.getModifiers().getFlags().containsAll(Set.of(Modifier.PUBLIC, Modifier.FINAL)), true);
            new Forms().scan(unit, null);
            for (Tree member : program.getMembers()) {
                if (member instanceof VariableTree field) field(field);
                else if (member instanceof MethodTree method) method(unit, method);
                else checks.due("a member that is neither field nor method", true, false);
            }
            long fields = program.getMembers().stream().filter(t -> t instanceof VariableTree v && !isStatic(v)).count();
            checks.due("fields: " + fields, fields <= 40, true);
        }
        checks.due("the methods of the face", calls.keySet().containsAll(FACE), true);
        for (String name : calls.keySet()) {
            int depth = depth(name, new ArrayDeque<>());
            checks.due(name + " calls " + depth + " deep", depth <= 6, true);
        }
        checks.end();
    }

    private static boolean isStatic(VariableTree field) {
        return field.getModifiers().getFlags().contains(Modifier.STATIC);
    }

    private static void field(VariableTree field) {
        Set<Modifier> flags = field.getModifiers().getFlags();
        String name = field.getName().toString();
        boolean constant = name.equals("BAD") || name.equals("FULL");
        checks.due(name + " is seen", flags.contains(constant ? Modifier.PUBLIC : Modifier.PRIVATE), true);
        if (isStatic(field)) checks.due(name + " is a constant", flags.contains(Modifier.FINAL) && field.getType().toString().equals("int"), true);
    }

    private static void method(CompilationUnitTree unit, MethodTree method) {
        String name = method.getName().toString();
        Set<Modifier> flags = method.getModifiers().getFlags();
        boolean isPublic = FACE.contains(name) || name.equals("<init>");
        checks.due(name + " is seen", flags.contains(isPublic ? Modifier.PUBLIC : Modifier.PRIVATE), true);
        checks.due(name + " stands once", calls.containsKey(name), false);
        checks.due(name + " has parameters", method.getParameters().size() <= 7, true);
        checks.due(name + " is short", linesOf(unit, method) <= 60, true);
        Set<String> called = new TreeSet<>();
        calls.put(name, called);
        new TreeScanner<Void, Void>() {
            private int inArguments = 0;

            @Override public Void visitMethodInvocation(MethodInvocationTree call, Void nothing) {
                checks.due("a call inside the arguments of another: " + call, inArguments, 0);
                called.add(call.getMethodSelect().toString());
                inArguments++;
                scan(call.getArguments(), null);
                inArguments--;
                return null;
            }

            @Override public Void visitNewArray(NewArrayTree array, Void nothing) {
                checks.due(name + " makes an array", true, false);
                return null;
            }
        }.scan(method.getBody(), null);
    }

    private static long linesOf(CompilationUnitTree unit, MethodTree method) {
        LineMap lines = unit.getLineMap();
        return 1 + lines.getLineNumber(positions.getEndPosition(unit, method)) - lines.getLineNumber(positions.getStartPosition(unit, method));
    }

    /** How many methods stand in the longest chain of calls from this one on, itself among them. */
    private static int depth(String name, Deque<String> above) {
        checks.due("recursion: " + above + " " + name, above.contains(name), false);
        if (above.contains(name) || !calls.containsKey(name)) return above.contains(name) ? 99 : 0;
        above.push(name);
        int deepest = 0;
        for (String each : calls.get(name)) deepest = Math.max(deepest, depth(each, above));
        above.pop();
        return deepest + 1;
    }

    private static final class Forms extends TreeScanner<Void, Void> {
        @Override public Void scan(Tree tree, Void nothing) {
            if (tree != null && FORBIDDEN.contains(tree.getKind())) checks.due("outside the language: " + tree, true, false);
            return super.scan(tree, nothing);
        }

        @Override public Void visitVariable(VariableTree variable, Void nothing) {
            String type = variable.getType().toString();
            checks.due("type of " + variable, type.matches("(int|long|short|byte|char|boolean)(\\[\\])?"), true);
            return super.visitVariable(variable, nothing);
        }

        @Override public Void visitNewArray(NewArrayTree array, Void nothing) {
            boolean plain = array.getDimensions().size() == 1 && array.getInitializers() == null
                && (array.getDimensions().get(0) instanceof IdentifierTree || array.getDimensions().get(0) instanceof LiteralTree);
            checks.due("an array of a constant length: " + array, plain, true);
            return super.visitNewArray(array, nothing);
        }
    }
}
