import com.sun.source.tree.ClassTree;
import com.sun.source.tree.CompilationUnitTree;
import com.sun.source.tree.ExpressionTree;
import com.sun.source.tree.ForLoopTree;
import com.sun.source.tree.LineMap;
import com.sun.source.tree.MemberSelectTree;
import com.sun.source.tree.MethodInvocationTree;
import com.sun.source.tree.MethodTree;
import com.sun.source.tree.NewArrayTree;
import com.sun.source.tree.NewClassTree;
import com.sun.source.tree.Tree;
import com.sun.source.tree.VariableTree;
import com.sun.source.tree.WhileLoopTree;
import com.sun.source.util.JavacTask;
import com.sun.source.util.TreeScanner;
import com.sun.source.util.Trees;
import java.lang.reflect.Constructor;
import java.lang.reflect.Field;
import java.lang.reflect.Method;
import java.lang.reflect.Modifier;
import java.nio.file.Files;
import java.nio.file.Path;
import java.util.Arrays;
import java.util.EnumSet;
import java.util.HashMap;
import java.util.HashSet;
import java.util.List;
import java.util.Map;
import java.util.Set;
import java.util.TreeSet;
import javax.tools.JavaCompiler;
import javax.tools.StandardJavaFileManager;
import javax.tools.ToolProvider;

/** The document's face, and the rules of LANGUAGE.md that can be read off the source. */
public final class LanguageTest {
    private static final Check check = new Check();
    private static final Path SOURCE = Path.of("src/main/java/LastBows.java");

    private static final Set<String> FACE = Set.of(
        "int write(int)", "int wipe()", "int fault()", "int house()", "int about(int)", "int player(int,int)",
        "int hand(int,int)", "int call(int)", "int flowers(int)", "int seat(int,int)", "int night()", "int undo()",
        "int yet(int)", "int best(int,int)", "int wants(int,int)", "int still(int)", "int judge(int,long)",
        "int share(int,int,boolean)", "int hear(int,int,int)", "int unhear()", "int whose(int)",
        "int rests(int,int,int)", "int away(int,int,boolean)", "long seed(long)", "int seasons(int)",
        "int keep(int)", "int again(int)");

    private static final Set<String> LIBRARY = Set.of(
        "System.arraycopy", "Integer.bitCount", "Math.min", "Math.max", "Math.abs");

    private static final Set<Tree.Kind> FORBIDDEN = EnumSet.of(Tree.Kind.THROW, Tree.Kind.TRY, Tree.Kind.CATCH,
        Tree.Kind.SYNCHRONIZED, Tree.Kind.ASSERT, Tree.Kind.LAMBDA_EXPRESSION, Tree.Kind.MEMBER_REFERENCE,
        Tree.Kind.IMPORT, Tree.Kind.PACKAGE, Tree.Kind.STRING_LITERAL, Tree.Kind.DOUBLE_LITERAL,
        Tree.Kind.FLOAT_LITERAL, Tree.Kind.ANNOTATION, Tree.Kind.DO_WHILE_LOOP, Tree.Kind.ENHANCED_FOR_LOOP);

    /** The types of rule 3 that the file needs; what it does not need is not let in unseen. */
    private static final Set<String> TYPES = Set.of("int", "long", "boolean", "void", "int[]", "boolean[]", "Moment[]",
        "Script", "Cast", "Moment", "Acts", "Outlook", "Chances", "Heard", "Slots");

    public static void main(String[] args) throws Exception {
        face();
        signs();
        source();
        check.end("LanguageTest");
    }

    private static void face() {
        Class<LastBows> type = LastBows.class;
        check.holds("public and final", type.getModifiers() == (Modifier.PUBLIC | Modifier.FINAL));
        Set<String> methods = new TreeSet<>();
        for (Method method : type.getDeclaredMethods()) {
            if (!Modifier.isPrivate(method.getModifiers()) && !method.isSynthetic()) {
                check.holds(method + " is public alone", method.getModifiers() == Modifier.PUBLIC);
                List<String> takes = Arrays.stream(method.getParameterTypes()).map(Class::getName).toList();
                methods.add(method.getReturnType() + " " + method.getName() + "(" + String.join(",", takes) + ")");
            }
        }
        check.holds("methods " + methods, methods.equals(FACE));
        Constructor<?>[] constructors = type.getDeclaredConstructors();
        check.holds("one public constructor", constructors.length == 1
            && constructors[0].getModifiers() == Modifier.PUBLIC && constructors[0].getParameterCount() == 0);
        Set<String> constants = new TreeSet<>();
        for (Field field : type.getDeclaredFields()) {
            if (!Modifier.isPrivate(field.getModifiers())) {
                constants.add(field.getName());
            }
        }
        check.holds("constants " + constants, constants.equals(Set.of("UNKNOWN", "BAD", "LATE", "FULL", "NONE")));
        constants();
    }

    private static void constants() {
        check.due("UNKNOWN", LastBows.UNKNOWN, -1);
        check.due("BAD", LastBows.BAD, -2);
        check.due("LATE", LastBows.LATE, -3);
        check.due("FULL", LastBows.FULL, -4);
        check.due("NONE", LastBows.NONE, -9);
    }

    private static void signs() throws Exception {
        String source = Files.readString(SOURCE);
        check.holds("signs are 1 to 127", source.chars().allMatch(sign -> sign >= 1 && sign <= 127));
    }

    private static void source() throws Exception {
        JavaCompiler compiler = ToolProvider.getSystemJavaCompiler();
        try (StandardJavaFileManager files = compiler.getStandardFileManager(null, null, null)) {
            JavacTask task = (JavacTask) compiler.getTask(null, files, null, null, null,
                files.getJavaFileObjects(SOURCE));
            CompilationUnitTree unit = task.parse().iterator().next();
            check.holds("no package", unit.getPackage() == null);
            Rules rules = new Rules(unit, Trees.instance(task));
            rules.scan(unit, null);
            rules.atTheEnd();
        }
    }

    private static final class Rules extends TreeScanner<Void, Void> {
        private final CompilationUnitTree unit;
        private final Trees trees;
        private final Map<String, Set<String>> calls = new HashMap<>();
        private final Set<String> publicNames = new HashSet<>();
        private final Set<String> otherNames = new HashSet<>();
        private int classes = 0;
        private String method = "";
        private boolean constructing = true;

        Rules(CompilationUnitTree unit, Trees trees) {
            this.unit = unit;
            this.trees = trees;
        }

        @Override
        public Void scan(Tree tree, Void nothing) {
            if (tree != null) {
                check.holds(tree.getKind() + " at line " + line(tree, true), !FORBIDDEN.contains(tree.getKind()));
            }
            return super.scan(tree, nothing);
        }

        private long line(Tree tree, boolean start) {
            LineMap lines = unit.getLineMap();
            long at = start ? trees.getSourcePositions().getStartPosition(unit, tree)
                : trees.getSourcePositions().getEndPosition(unit, tree);
            return at < 0 ? 0 : lines.getLineNumber(at);
        }

        @Override
        public Void visitClass(ClassTree tree, Void nothing) {
            classes++;
            var flags = tree.getModifiers().getFlags();
            check.holds(tree.getSimpleName() + " is static or the outer one",
                flags.contains(javax.lang.model.element.Modifier.STATIC) || tree.getSimpleName().contentEquals("LastBows"));
            long fields = tree.getMembers().stream().filter(m -> m instanceof VariableTree v
                && !v.getModifiers().getFlags().contains(javax.lang.model.element.Modifier.STATIC)).count();
            check.holds(tree.getSimpleName() + " has twenty fields at most", fields <= 20);
            for (Tree member : tree.getMembers()) {
                boolean block = member.getKind() == Tree.Kind.BLOCK;
                check.holds("no initialiser block", !block);
                if (member instanceof VariableTree v) {
                    var its = v.getModifiers().getFlags();
                    boolean isStatic = its.contains(javax.lang.model.element.Modifier.STATIC);
                    check.holds(v.getName() + " is final, if static",
                        !isStatic || its.contains(javax.lang.model.element.Modifier.FINAL));
                }
            }
            return super.visitClass(tree, nothing);
        }

        @Override
        public Void visitMethod(MethodTree tree, Void nothing) {
            method = tree.getName().toString();
            constructing = method.equals("<init>");
            boolean isPublic = tree.getModifiers().getFlags().contains(javax.lang.model.element.Modifier.PUBLIC);
            if (!constructing) {
                (isPublic ? publicNames : otherNames).add(method);
            }
            check.holds(method + " takes seven at most", tree.getParameters().size() <= 7);
            check.holds(method + " answers a type that is allowed",
                constructing || TYPES.contains(tree.getReturnType().toString()));
            check.holds(method + " is short", line(tree, false) - line(tree, true) < 60);
            super.visitMethod(tree, nothing);
            method = "";
            constructing = true;
            return null;
        }

        @Override
        public Void visitMethodInvocation(MethodInvocationTree tree, Void nothing) {
            String called = tree.getMethodSelect().toString();
            String name = tree.getMethodSelect() instanceof MemberSelectTree select
                ? select.getIdentifier().toString() : called;
            if (Character.isUpperCase(called.charAt(0))) {
                check.holds(called + " is of the library that is allowed", LIBRARY.contains(called));
            } else {
                calls.computeIfAbsent(method, key -> new HashSet<>()).add(name);
            }
            return super.visitMethodInvocation(tree, nothing);
        }

        @Override
        public Void visitVariable(VariableTree tree, Void nothing) {
            check.holds(tree.getName() + " is of a type that is allowed", TYPES.contains(tree.getType().toString()));
            return super.visitVariable(tree, nothing);
        }

        @Override
        public Void visitForLoop(ForLoopTree tree, Void nothing) {
            check.holds("the end of the loop at line " + line(tree, true) + " can be seen",
                tree.getCondition() != null && isBounded(tree.getCondition()) && tree.getUpdate().size() == 1);
            return super.visitForLoop(tree, nothing);
        }

        @Override
        public Void visitWhileLoop(WhileLoopTree tree, Void nothing) {
            check.holds("the end of the loop at line " + line(tree, true) + " can be seen", isBounded(tree.getCondition()));
            return super.visitWhileLoop(tree, nothing);
        }

        /** A counter under a bound stands first in the condition. */
        private static boolean isBounded(ExpressionTree condition) {
            return condition.toString().matches("\\(?\\w+ <=? [\\w.]+( && .*)?\\)?");
        }

        /** Rows are made in constructors alone, so that a long run makes nothing more. */
        @Override
        public Void visitNewArray(NewArrayTree tree, Void nothing) {
            check.holds("an array made in " + method, constructing);
            return super.visitNewArray(tree, nothing);
        }

        @Override
        public Void visitNewClass(NewClassTree tree, Void nothing) {
            check.holds("an object made in " + method, constructing);
            check.holds("no anonymous class", tree.getClassBody() == null);
            return super.visitNewClass(tree, nothing);
        }

        void atTheEnd() {
            check.holds("twelve classes at most", classes <= 12);
            for (String name : otherNames) {
                check.holds(name + " bears no public name", !publicNames.contains(name));
            }
            for (String name : publicNames) {
                int deep = depth(name, new HashSet<>());
                check.holds(name + " goes " + deep + " calls deep", deep <= 8);
            }
        }

        /** How many methods stand open at most; methods of one name count as one, which is never too few. */
        private int depth(String name, Set<String> open) {
            check.holds(name + " is no recursion", open.add(name));
            int deepest = 0;
            for (String next : calls.getOrDefault(name, Set.of())) {
                deepest = open.contains(next) ? 99 : Math.max(deepest, depth(next, open));
            }
            open.remove(name);
            return 1 + deepest;
        }
    }
}
