import com.sun.source.tree.AssignmentTree;
import com.sun.source.tree.ClassTree;
import com.sun.source.tree.CompilationUnitTree;
import com.sun.source.tree.ExpressionTree;
import com.sun.source.tree.IdentifierTree;
import com.sun.source.tree.LineMap;
import com.sun.source.tree.MemberSelectTree;
import com.sun.source.tree.MethodInvocationTree;
import com.sun.source.tree.MethodTree;
import com.sun.source.tree.NewArrayTree;
import com.sun.source.tree.Tree;
import com.sun.source.tree.VariableTree;
import com.sun.source.util.JavacTask;
import com.sun.source.util.SourcePositions;
import com.sun.source.util.TreePathScanner;
import com.sun.source.util.TreeScanner;
import com.sun.source.util.Trees;
import java.io.IOException;
import java.lang.reflect.Constructor;
import java.lang.reflect.Field;
import java.lang.reflect.Method;
import java.lang.reflect.Modifier;
import java.nio.file.Path;
import java.util.EnumSet;
import java.util.List;
import java.util.Map;
import java.util.Set;
import java.util.TreeMap;
import java.util.TreeSet;
import javax.tools.JavaCompiler;
import javax.tools.StandardJavaFileManager;
import javax.tools.ToolProvider;

/** The public face of the document, and those rules of LANGUAGE.md that a program can look at. */
public final class LanguageTest {
    private static final Path SOURCE = Path.of("src/main/java/ReviveKernel.java");
    private static final Set<String> FACE = Set.of("birth(int,int)int", "end(int)boolean", "leave()int",
        "send(int,int)int", "call(int,int)int", "receive(int,boolean)int", "note(int)int", "post(int,int)int",
        "lend(int,int,int,int,int)int", "pass(int,int,int,int)int", "revoke(int)int",
        "copy(int,int,int,int,int,boolean)int", "alarm(int)int", "beat()int", "watch(int)int", "serve(int,int,int)int",
        "close(int)boolean", "tick(int)int", "poke(int,int,int)boolean", "memory(int,int)int", "running()int",
        "at(int,int)int", "service(int,int)int", "total(int)int");
    private static final Map<String, Integer> CONSTANTS = Map.of("BAD", -1, "BLOCKED", -2, "STALE", -3, "DENIED", -4,
        "DEADLOCK", -5, "NOTHING", -6, "FULL", -7);
    private static final Set<Tree.Kind> FORBIDDEN = EnumSet.of(Tree.Kind.THROW, Tree.Kind.TRY, Tree.Kind.CATCH,
        Tree.Kind.SYNCHRONIZED, Tree.Kind.ASSERT, Tree.Kind.INSTANCE_OF, Tree.Kind.LAMBDA_EXPRESSION,
        Tree.Kind.MEMBER_REFERENCE, Tree.Kind.NEW_CLASS, Tree.Kind.NULL_LITERAL, Tree.Kind.STRING_LITERAL,
        Tree.Kind.FLOAT_LITERAL, Tree.Kind.DOUBLE_LITERAL, Tree.Kind.IMPORT, Tree.Kind.PACKAGE, Tree.Kind.INTERFACE,
        Tree.Kind.ENUM, Tree.Kind.RECORD);
    private static final int MOST_LINES = 60, MOST_FIELDS = 40, MOST_PARAMETERS = 7, DEEPEST = 6;

    public static void main(String[] args) throws IOException, IllegalAccessException {
        face();
        source();
        Due.close("LanguageTest");
    }

    private static void face() throws IllegalAccessException {
        Class<?> c = ReviveKernel.class;
        Due.due("public and final", c.getModifiers(), Modifier.PUBLIC | Modifier.FINAL);
        Due.due("no nested class", c.getDeclaredClasses().length, 0);
        Set<String> seen = new TreeSet<>();
        Set<String> names = new TreeSet<>();
        for (Method m : c.getDeclaredMethods()) {
            if (Modifier.isPrivate(m.getModifiers())) {
                continue;
            }
            StringBuilder text = new StringBuilder();
            for (Class<?> p : m.getParameterTypes()) {
                text.append(text.length() == 0 ? "" : ",").append(p);
            }
            seen.add(m.getName() + "(" + text + ")" + m.getReturnType());
            names.add(m.getName());
            Due.due(m + " is public alone", m.getModifiers(), Modifier.PUBLIC);
        }
        Due.due("the methods are those of the document: " + seen, seen.equals(FACE), true);
        for (Method m : c.getDeclaredMethods()) {
            Due.due(m + ": no private method bears a public name",
                Modifier.isPrivate(m.getModifiers()) && names.contains(m.getName()), false);
        }
        Constructor<?>[] constructors = c.getDeclaredConstructors();
        Due.due("one constructor", constructors.length, 1);
        Due.due("without parameters", constructors[0].getParameterCount(), 0);
        Due.due("public", constructors[0].getModifiers(), Modifier.PUBLIC);
        fields(c);
    }

    private static void fields(Class<?> c) throws IllegalAccessException {
        int constants = 0;
        int own = 0;
        for (Field f : c.getDeclaredFields()) {
            boolean isStatic = Modifier.isStatic(f.getModifiers());
            own += isStatic ? 0 : 1;
            Class<?> type = f.getType();
            boolean plain = type.isPrimitive() || type.isArray() && type.getComponentType().isPrimitive();
            Due.due(f + " is a number or an array of numbers", plain, true);
            Due.due(f + " is no fraction", type.getName().matches("float|double|\\[F|\\[D"), false);
            if (isStatic) {
                Due.due(f + " is final", Modifier.isFinal(f.getModifiers()), true);
                Due.due(f + " is int or long", type == int.class || type == long.class, true);
            }
            if (!Modifier.isPrivate(f.getModifiers())) {
                constants++;
                Due.due(f + " is a constant of the document", CONSTANTS.containsKey(f.getName()), true);
                Due.due(f + "", f.getInt(null), CONSTANTS.getOrDefault(f.getName(), 0));
            }
        }
        Due.due("all constants are there", constants, CONSTANTS.size());
        Due.due("at most " + MOST_FIELDS + " fields: " + own, own <= MOST_FIELDS, true);
    }

    private static void source() throws IOException {
        JavaCompiler compiler = ToolProvider.getSystemJavaCompiler();
        try (StandardJavaFileManager files = compiler.getStandardFileManager(null, null, null)) {
            JavacTask task = (JavacTask) compiler.getTask(null, files, null, null, null,
                files.getJavaFileObjects(SOURCE));
            CompilationUnitTree unit = task.parse().iterator().next();
            task.analyze();
            new Rules(unit, Trees.instance(task).getSourcePositions()).look();
        }
    }

    private static final class Rules extends TreePathScanner<Void, Void> {
        private final CompilationUnitTree unit;
        private final SourcePositions positions;
        private final LineMap lines;
        private final Map<String, Set<String>> calls = new TreeMap<>();
        private final Set<String> arrayFields = new TreeSet<>();
        private int classes = 0;
        private String method = "";

        Rules(CompilationUnitTree unit, SourcePositions positions) {
            this.unit = unit;
            this.positions = positions;
            this.lines = unit.getLineMap();
        }

        void look() {
            Due.due("one type in the file", unit.getTypeDecls().size(), 1);
            scan(unit, null);
            Due.due("one class", classes, 1);
            for (String name : calls.keySet()) {
                int deep = depth(name, 1);
                Due.due(name + ": calls at most " + DEEPEST + " deep, no recursion: " + deep, deep <= DEEPEST, true);
            }
        }

        /** How deep the calls go; recursion is told by a depth beyond every bound. */
        private int depth(String name, int level) {
            int deepest = level;
            if (level > 50) {
                return level;
            }
            for (String called : calls.getOrDefault(name, Set.of())) {
                deepest = Math.max(deepest, depth(called, level + 1));
            }
            return deepest;
        }

        private void wrong(Tree tree, String what) {
            long line = lines.getLineNumber(positions.getStartPosition(unit, tree));
            Due.due("line " + line + ": " + what, false, true);
        }

        @Override
        public Void scan(Tree tree, Void v) {
            if (tree != null && FORBIDDEN.contains(tree.getKind())) {
                wrong(tree, tree.getKind() + " is outside the language");
            }
            return super.scan(tree, v);
        }

        @Override
        public Void visitClass(ClassTree tree, Void v) {
            classes++;
            for (Tree member : tree.getMembers()) {
                if (member instanceof VariableTree && ((VariableTree) member).getType().getKind() == Tree.Kind.ARRAY_TYPE) {
                    arrayFields.add(((VariableTree) member).getName().toString());
                }
                if (member.getKind() == Tree.Kind.BLOCK) {
                    wrong(member, "an initialiser block");
                }
            }
            return super.visitClass(tree, v);
        }

        @Override
        public Void visitMethod(MethodTree tree, Void v) {
            method = tree.getName().toString();
            Due.due(method + " has no namesake", calls.containsKey(method), false);
            calls.put(method, new TreeSet<>());
            long first = lines.getLineNumber(positions.getStartPosition(unit, tree));
            long last = lines.getLineNumber(positions.getEndPosition(unit, tree));
            Due.due(method + " is short", last - first < MOST_LINES, true);
            Due.due(method + " has few parameters", tree.getParameters().size() <= MOST_PARAMETERS, true);
            super.visitMethod(tree, v);
            method = "";
            return null;
        }

        @Override
        public Void visitMethodInvocation(MethodInvocationTree tree, Void v) {
            ExpressionTree called = tree.getMethodSelect();
            if (called.getKind() != Tree.Kind.IDENTIFIER) {
                wrong(tree, "a call of something else");
            } else if (!((IdentifierTree) called).getName().contentEquals("super")) {
                calls.get(method).add(((IdentifierTree) called).getName().toString());
            }
            noCallIn(tree.getArguments());
            return super.visitMethodInvocation(tree, v);
        }

        private void noCallIn(List<? extends ExpressionTree> arguments) {
            new TreeScanner<Void, Void>() {
                @Override
                public Void visitMethodInvocation(MethodInvocationTree inner, Void v) {
                    wrong(inner, "a call inside the arguments of another call");
                    return null;
                }
            }.scan(arguments, null);
        }

        @Override
        public Void visitMemberSelect(MemberSelectTree tree, Void v) {
            if (!tree.getIdentifier().contentEquals("length")) {
                wrong(tree, tree + " is something of another class");
            }
            return super.visitMemberSelect(tree, v);
        }

        @Override
        public Void visitNewArray(NewArrayTree tree, Void v) {
            if (!method.isEmpty() || tree.getDimensions().size() != 1 || tree.getInitializers() != null) {
                wrong(tree, "an array that is not made in a field's initialiser with a length");
            }
            return super.visitNewArray(tree, v);
        }

        @Override
        public Void visitAssignment(AssignmentTree tree, Void v) {
            if (arrayFields.contains(tree.getVariable().toString())) {
                wrong(tree, "an array field is assigned");
            }
            return super.visitAssignment(tree, v);
        }
    }
}
