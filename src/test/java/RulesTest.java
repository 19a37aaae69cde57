import com.sun.source.tree.ClassTree;
import com.sun.source.tree.CompilationUnitTree;
import com.sun.source.tree.MethodInvocationTree;
import com.sun.source.tree.MethodTree;
import com.sun.source.tree.NewClassTree;
import com.sun.source.tree.Tree;
import com.sun.source.tree.VariableTree;
import com.sun.source.util.JavacTask;
import com.sun.source.util.SourcePositions;
import com.sun.source.util.TreePathScanner;
import com.sun.source.util.Trees;
import java.io.File;
import java.io.IOException;
import java.util.Arrays;
import java.util.HashMap;
import java.util.HashSet;
import java.util.LinkedHashMap;
import java.util.LinkedHashSet;
import java.util.Map;
import java.util.Set;
import javax.lang.model.element.Element;
import javax.lang.model.element.ExecutableElement;
import javax.tools.JavaCompiler;
import javax.tools.StandardJavaFileManager;
import javax.tools.ToolProvider;

/**
 * Those rules of LANGUAGE.md that the compiler can tell from the text of the class, whose path is the
 * argument: which calls go to the library (rule 4), how deep calls go (rules 8 and 11), and how long
 * methods and how many their parameters are (rule 11).
 */
public final class RulesTest {
    private static final int MOST_DEPTH = 8;
    private static final int MOST_LINES = 60;
    private static final int MOST_PARAMETERS = 7;
    private static final int MOST_RECURSION = 1;

    /** What of the library this class does with, by where it is written; more stands in rule 4. */
    private static final Set<String> LIBRARY = new HashSet<>(Arrays.asList(
            "java.lang.Object.Object()", "java.lang.Enum.Enum(java.lang.String,int)",
            "java.lang.String.length()", "java.lang.String.charAt(int)",
            "java.lang.StringBuilder.StringBuilder()", "java.lang.StringBuilder.append(char)",
            "java.lang.StringBuilder.append(int)", "java.lang.StringBuilder.append(java.lang.String)",
            "java.lang.AbstractStringBuilder.charAt(int)", "java.lang.AbstractStringBuilder.setLength(int)",
            "java.lang.AbstractStringBuilder.length()", "java.lang.Math.abs(int)", "java.lang.Math.min(int,int)",
            "java.lang.Math.max(int,int)",
            "java.lang.System.arraycopy(java.lang.Object,int,java.lang.Object,int,int)"));

    private static final Map<String, Set<String>> CALLS = new LinkedHashMap<>();
    private static final Map<String, Integer> DEPTHS = new HashMap<>();
    private static final Set<String> RECURSIVE = new LinkedHashSet<>();

    private RulesTest() {
    }

    public static void main(String[] args) throws IOException {
        if (args.length == 0) {
            System.out.println("the path of the class is missing");
            System.exit(1);
        }
        look(new File(args[0]));
        Check.due("methods were found", CALLS.size() > 41 ? 1 : 0, 1);
        for (String method : CALLS.keySet()) {
            int depth = depth(method, new LinkedHashSet<>());
            Check.due(method + " goes " + depth + " calls deep, which is too deep", depth > MOST_DEPTH ? 1 : 0, 0);
        }
        Check.due("recursive methods " + RECURSIVE, RECURSIVE.size(), MOST_RECURSION);
        Check.end();
    }

    private static void look(File file) throws IOException {
        JavaCompiler compiler = ToolProvider.getSystemJavaCompiler();
        StandardJavaFileManager files = compiler.getStandardFileManager(null, null, null);
        JavacTask task = (JavacTask) compiler.getTask(null, files, null, Arrays.asList("-proc:none"), null,
                files.getJavaFileObjects(file));
        Iterable<? extends CompilationUnitTree> units = task.parse();
        task.analyze();
        for (CompilationUnitTree unit : units) {
            new Looker(Trees.instance(task), unit).scan(unit, null);
        }
        files.close();
    }

    /** The most calls that stand open at once below and with a method, recursion counted once. */
    private static int depth(String method, Set<String> open) {
        if (DEPTHS.containsKey(method)) {
            return DEPTHS.get(method);
        }
        open.add(method);
        int most = 0;
        for (String called : CALLS.getOrDefault(method, Set.of())) {
            if (open.contains(called)) {
                RECURSIVE.add(called);
            } else {
                most = Math.max(most, depth(called, open));
            }
        }
        open.remove(method);
        DEPTHS.put(method, most + 1);
        return most + 1;
    }

    private static final class Looker extends TreePathScanner<Void, Void> {
        private final Trees trees;
        private final CompilationUnitTree unit;
        private String caller = "";

        Looker(Trees trees, CompilationUnitTree unit) {
            this.trees = trees;
            this.unit = unit;
        }

        @Override
        public Void visitMethod(MethodTree method, Void nothing) {
            String outer = caller;
            caller = nameOf(trees.getElement(getCurrentPath()));
            CALLS.putIfAbsent(caller, new LinkedHashSet<>());
            Check.due(caller + " takes more than seven", method.getParameters().size() > MOST_PARAMETERS ? 1 : 0, 0);
            Check.due(caller + " is too long", lines(method) > MOST_LINES ? 1 : 0, 0);
            super.visitMethod(method, nothing);
            caller = outer;
            return null;
        }

        /** Fields that are set where they are declared would be set by calls that no method holds. */
        @Override
        public Void visitVariable(VariableTree variable, Void nothing) {
            boolean isField = getCurrentPath().getParentPath().getLeaf() instanceof ClassTree;
            if (isField && caller.isEmpty()) {
                caller = "a field's initialiser";
                super.visitVariable(variable, nothing);
                caller = "";
                return null;
            }
            return super.visitVariable(variable, nothing);
        }

        private long lines(Tree tree) {
            SourcePositions positions = trees.getSourcePositions();
            long start = unit.getLineMap().getLineNumber(positions.getStartPosition(unit, tree));
            long end = positions.getEndPosition(unit, tree);
            return end < 0 ? 0 : unit.getLineMap().getLineNumber(end) - start + 1;
        }

        @Override
        public Void visitMethodInvocation(MethodInvocationTree call, Void nothing) {
            noteCall();
            return super.visitMethodInvocation(call, nothing);
        }

        @Override
        public Void visitNewClass(NewClassTree made, Void nothing) {
            noteCall();
            return super.visitNewClass(made, nothing);
        }

        private void noteCall() {
            Element element = trees.getElement(getCurrentPath());
            if (!(element instanceof ExecutableElement)) {
                return;
            }
            String called = nameOf(element);
            CALLS.computeIfAbsent(caller, key -> new LinkedHashSet<>());
            if (called.startsWith("CartArguments")) {
                CALLS.get(caller).add(called);
            } else {
                Check.due(caller + " calls " + called, LIBRARY.contains(called) ? 1 : 0, 1);
            }
        }

        private static String nameOf(Element element) {
            String name = element.toString();
            if (name.startsWith("<init>")) {
                name = element.getEnclosingElement().getSimpleName() + name.substring("<init>".length());
            }
            return element.getEnclosingElement() + "." + name;
        }
    }
}
