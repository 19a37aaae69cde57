import com.sun.source.tree.AssignmentTree;
import com.sun.source.tree.BinaryTree;
import com.sun.source.tree.BlockTree;
import com.sun.source.tree.CompilationUnitTree;
import com.sun.source.tree.CompoundAssignmentTree;
import com.sun.source.tree.ConditionalExpressionTree;
import com.sun.source.tree.ExpressionStatementTree;
import com.sun.source.tree.IdentifierTree;
import com.sun.source.tree.IfTree;
import com.sun.source.tree.LiteralTree;
import com.sun.source.tree.MethodTree;
import com.sun.source.tree.ReturnTree;
import com.sun.source.tree.StatementTree;
import com.sun.source.tree.Tree;
import com.sun.source.tree.UnaryTree;
import com.sun.source.util.JavacTask;
import com.sun.source.util.TreeScanner;
import com.sun.source.util.Trees;
import java.io.ByteArrayOutputStream;
import java.io.IOException;
import java.io.OutputStream;
import java.io.PrintStream;
import java.io.PrintWriter;
import java.net.URI;
import java.nio.charset.StandardCharsets;
import java.nio.file.Files;
import java.nio.file.Path;
import java.util.ArrayList;
import java.util.HashMap;
import java.util.List;
import java.util.Map;
import java.util.TreeMap;
import java.util.concurrent.ExecutorService;
import java.util.concurrent.Executors;
import java.util.concurrent.Future;
import javax.tools.FileObject;
import javax.tools.ForwardingJavaFileManager;
import javax.tools.JavaCompiler;
import javax.tools.JavaFileManager;
import javax.tools.JavaFileObject;
import javax.tools.SimpleJavaFileObject;
import javax.tools.ToolProvider;

/**
 * Breaks the class in one place at a time and tells which of the broken classes EdgesTest takes for
 * the right one. Arguments: the class's path, the folder of the compiled tests. Run by hand.
 */
public final class Mutants {
    private static final JavaCompiler COMPILER = ToolProvider.getSystemJavaCompiler();
    private static final long MOST_MILLIS = 20000L;

    private static final class Mutant {
        final int start;
        final int end;
        final String instead;

        Mutant(long start, long end, String instead) {
            this.start = (int) start;
            this.end = (int) end;
            this.instead = instead;
        }
    }

    private Mutants() {
    }

    public static void main(String[] args) throws Exception {
        PrintStream out = System.out;
        System.setOut(new PrintStream(OutputStream.nullOutputStream()));
        String text = Files.readString(Path.of(args[0]), StandardCharsets.UTF_8);
        Map<String, byte[]> tests = read(Path.of(args[1]));
        if (!isCaught(text, tests).equals("survives")) {
            out.println("the class itself fails");
            System.exit(1);
        }
        List<Mutant> mutants = find(text);
        ExecutorService pool = Executors.newFixedThreadPool(Runtime.getRuntime().availableProcessors());
        List<Future<String>> answers = new ArrayList<>();
        for (Mutant mutant : mutants) {
            String broken = text.substring(0, mutant.start) + mutant.instead + text.substring(mutant.end);
            answers.add(pool.submit(() -> isCaught(broken, tests)));
        }
        TreeMap<String, Integer> counts = new TreeMap<>();
        for (int index = 0; index < mutants.size(); index++) {
            String answer = answers.get(index).get();
            counts.merge(answer, 1, Integer::sum);
            if (answer.equals("survives")) {
                out.println(told(text, mutants.get(index)));
            }
        }
        out.println(counts);
        System.exit(0);
    }

    private static String told(String text, Mutant mutant) {
        int line = 1;
        for (int index = 0; index < mutant.start; index++) {
            line += text.charAt(index) == '\n' ? 1 : 0;
        }
        int from = text.lastIndexOf('\n', mutant.start) + 1;
        int to = text.indexOf('\n', mutant.end);
        String broken = text.substring(from, mutant.start) + "<<" + text.substring(mutant.start, mutant.end) + " -> "
                + mutant.instead + ">>" + text.substring(mutant.end, to);
        return line + ": " + broken.trim().replaceAll("\\s+", " ");
    }

    private static Map<String, byte[]> read(Path folder) throws IOException {
        Map<String, byte[]> classes = new HashMap<>();
        try (var files = Files.list(folder)) {
            for (Path file : (Iterable<Path>) files::iterator) {
                String name = file.getFileName().toString();
                if (name.endsWith(".class") && !name.startsWith("CartArguments")) {
                    classes.put(name.substring(0, name.length() - 6), Files.readAllBytes(file));
                }
            }
        }
        return classes;
    }

    private static final class Source extends SimpleJavaFileObject {
        private final String text;

        Source(String text) {
            super(URI.create("string:///CartArguments.java"), Kind.SOURCE);
            this.text = text;
        }

        @Override
        public CharSequence getCharContent(boolean ignored) {
            return text;
        }
    }

    private static final class Memory extends ForwardingJavaFileManager<JavaFileManager> {
        private final Map<String, ByteArrayOutputStream> made = new HashMap<>();

        Memory(JavaFileManager under) {
            super(under);
        }

        @Override
        public JavaFileObject getJavaFileForOutput(Location to, String name, JavaFileObject.Kind kind, FileObject near) {
            return new SimpleJavaFileObject(URI.create("mem:///" + name + ".class"), kind) {
                @Override
                public OutputStream openOutputStream() {
                    ByteArrayOutputStream bytes = new ByteArrayOutputStream();
                    made.put(name, bytes);
                    return bytes;
                }
            };
        }
    }

    private static final class Loader extends ClassLoader {
        private final Map<String, byte[]> classes;

        Loader(Map<String, byte[]> classes) {
            super(ClassLoader.getPlatformClassLoader());
            this.classes = classes;
        }

        @Override
        protected Class<?> findClass(String name) throws ClassNotFoundException {
            byte[] bytes = classes.get(name);
            if (bytes == null) {
                throw new ClassNotFoundException(name);
            }
            return defineClass(name, bytes, 0, bytes.length);
        }
    }

    private static String isCaught(String text, Map<String, byte[]> tests) throws Exception {
        Memory memory = new Memory(COMPILER.getStandardFileManager(null, null, null));
        PrintWriter nowhere = new PrintWriter(OutputStream.nullOutputStream());
        boolean isCompiled = COMPILER.getTask(nowhere, memory, diagnostic -> { }, List.of("-proc:none"), null,
                List.of(new Source(text))).call();
        if (!isCompiled) {
            return "does not compile";
        }
        Map<String, byte[]> classes = new HashMap<>(tests);
        memory.made.forEach((name, bytes) -> classes.put(name, bytes.toByteArray()));
        Loader loader = new Loader(classes);
        String[] answer = {"runs on"};
        Thread thread = new Thread(() -> answer[0] = test(loader));
        thread.setDaemon(true);
        thread.start();
        thread.join(MOST_MILLIS);
        if (thread.isAlive()) {
            stop(thread);
        }
        return answer[0];
    }

    @SuppressWarnings("deprecation")
    private static void stop(Thread thread) {
        thread.stop();
    }

    private static String test(Loader loader) {
        try {
            var all = loader.loadClass("EdgesTest").getDeclaredMethod("all");
            all.setAccessible(true);
            all.invoke(null);
            var wrong = loader.loadClass("Check").getDeclaredMethod("wrongSoFar");
            wrong.setAccessible(true);
            return (int) wrong.invoke(null) == 0 ? "survives" : "is caught";
        } catch (ReflectiveOperationException | LinkageError thrown) {
            return "throws";
        }
    }

    private static List<Mutant> find(String text) throws IOException {
        JavacTask task = (JavacTask) COMPILER.getTask(null, null, null, List.of("-proc:none"), null,
                List.of(new Source(text)));
        List<Mutant> mutants = new ArrayList<>();
        for (CompilationUnitTree unit : task.parse()) {
            new Finder(text, Trees.instance(task), unit, mutants).scan(unit, null);
        }
        return mutants;
    }

    private static final class Finder extends TreeScanner<Void, Void> {
        private static final Map<String, String> OPERATORS = new HashMap<>();

        static {
            String[] pairs = {
                "< <=", "<= <", "> >=", ">= >", "== !=", "!= ==", "&& ||", "|| &&", "+ -", "- +", "* +", "/ *",
                "| &", "& |", "^ |", "<< >>", ">> <<", ">>> <<", "+= -=", "-= +=", "|= ^=",
            };
            for (String pair : pairs) {
                OPERATORS.put(pair.split(" ")[0], pair.split(" ")[1]);
            }
        }

        private final String text;
        private final Trees trees;
        private final CompilationUnitTree unit;
        private final List<Mutant> mutants;
        private String returned = "";

        Finder(String text, Trees trees, CompilationUnitTree unit, List<Mutant> mutants) {
            this.text = text;
            this.trees = trees;
            this.unit = unit;
            this.mutants = mutants;
        }

        private long start(Tree tree) {
            return trees.getSourcePositions().getStartPosition(unit, tree);
        }

        private long end(Tree tree) {
            return trees.getSourcePositions().getEndPosition(unit, tree);
        }

        private void put(Tree tree, String instead) {
            boolean isOther = !textOf(tree).equals(instead) && !(textOf(tree).equals("NONE") && instead.equals("-1"));
            if (isOther && end(tree) > start(tree)) {
                mutants.add(new Mutant(start(tree), end(tree), instead));
            }
        }

        private String textOf(Tree tree) {
            return start(tree) < 0 || end(tree) < 0 ? "" : text.substring((int) start(tree), (int) end(tree));
        }

        private void changeOperator(Tree left, Tree right) {
            String between = text.substring((int) end(left), (int) start(right));
            String operator = between.replaceAll("[\\s()]", "");
            if (OPERATORS.containsKey(operator)) {
                long at = end(left) + between.indexOf(operator);
                mutants.add(new Mutant(at, at + operator.length(), OPERATORS.get(operator)));
            }
        }

        @Override
        public Void visitBinary(BinaryTree tree, Void nothing) {
            changeOperator(tree.getLeftOperand(), tree.getRightOperand());
            if (tree.getKind() == Tree.Kind.CONDITIONAL_AND || tree.getKind() == Tree.Kind.CONDITIONAL_OR) {
                put(tree, "(" + textOf(tree.getLeftOperand()) + ")");
                put(tree, "(" + textOf(tree.getRightOperand()) + ")");
            }
            return super.visitBinary(tree, nothing);
        }

        @Override
        public Void visitCompoundAssignment(CompoundAssignmentTree tree, Void nothing) {
            changeOperator(tree.getVariable(), tree.getExpression());
            return super.visitCompoundAssignment(tree, nothing);
        }

        @Override
        public Void visitUnary(UnaryTree tree, Void nothing) {
            if (tree.getKind() == Tree.Kind.LOGICAL_COMPLEMENT) {
                put(tree, "(" + textOf(tree.getExpression()) + ")");
            } else if (tree.getKind() == Tree.Kind.POSTFIX_INCREMENT) {
                put(tree, textOf(tree.getExpression()) + "--");
            }
            return super.visitUnary(tree, nothing);
        }

        @Override
        public Void visitLiteral(LiteralTree tree, Void nothing) {
            Object value = tree.getValue();
            if (value instanceof Integer) {
                put(tree, "(" + ((Integer) value + 1) + ")");
                put(tree, "(" + ((Integer) value - 1) + ")");
            } else if (value instanceof Long) {
                put(tree, (Long) value + 1 + "L");
            } else if (value instanceof Float) {
                put(tree, (Float) value * 2 + 0.125f + "f");
                put(tree, "(float) (double) " + ((Float) value - 0.0625f));
            } else if (value instanceof Boolean) {
                put(tree, value.equals(true) ? "false" : "true");
            } else if (value instanceof Character) {
                put(tree, "(char) " + ((Character) value + 1));
                put(tree, "(char) " + ((Character) value - 1));
            }
            return super.visitLiteral(tree, nothing);
        }

        @Override
        public Void visitConditionalExpression(ConditionalExpressionTree tree, Void nothing) {
            put(tree, "(" + textOf(tree.getTrueExpression()) + ")");
            put(tree, "(" + textOf(tree.getFalseExpression()) + ")");
            return super.visitConditionalExpression(tree, nothing);
        }

        /** Two ifs that stand one after the other change places, as the order of errors is told. */
        @Override
        public Void visitBlock(BlockTree tree, Void nothing) {
            List<? extends StatementTree> lines = tree.getStatements();
            for (int index = 0; index + 1 < lines.size(); index++) {
                StatementTree one = lines.get(index);
                StatementTree other = lines.get(index + 1);
                if (one instanceof IfTree && other instanceof IfTree) {
                    mutants.add(new Mutant(start(one), end(other), textOf(other) + " " + textOf(one)));
                }
            }
            return super.visitBlock(tree, nothing);
        }

        @Override
        public Void visitIf(IfTree tree, Void nothing) {
            put(tree.getCondition(), "(1 == 1)");
            put(tree.getCondition(), "(1 == 2)");
            return super.visitIf(tree, nothing);
        }

        @Override
        public Void visitMethod(MethodTree tree, Void nothing) {
            returned = tree.getReturnType() == null ? "" : tree.getReturnType().toString();
            return super.visitMethod(tree, nothing);
        }

        @Override
        public Void visitReturn(ReturnTree tree, Void nothing) {
            if (tree.getExpression() != null) {
                if (returned.equals("int")) {
                    put(tree.getExpression(), "0");
                    put(tree.getExpression(), "-1");
                    put(tree.getExpression(), "1 + (" + textOf(tree.getExpression()) + ")");
                } else if (returned.equals("boolean")) {
                    put(tree.getExpression(), "true");
                    put(tree.getExpression(), "false");
                } else if (returned.equals("float") || returned.equals("double")) {
                    put(tree.getExpression(), "0.0f");
                }
            }
            return super.visitReturn(tree, nothing);
        }

        @Override
        public Void visitIdentifier(IdentifierTree tree, Void nothing) {
            String name = tree.getName().toString();
            Map<String, String> others = Map.of("NONE", "BAD", "BAD", "NONE", "REFUSED", "BAD", "NOTHING", "NONE",
                    "TOP", "LAST_PLACE", "LAST_PLACE", "TOP", "isRear", "!isRear");
            if (others.containsKey(name)) {
                put(tree, "(" + others.get(name) + ")");
            } else if (name.startsWith("MOST_")) {
                put(tree, "(" + name + " - 1)");
                put(tree, "(" + name + " + 1)");
            }
            return super.visitIdentifier(tree, nothing);
        }

        @Override
        public Void visitExpressionStatement(ExpressionStatementTree tree, Void nothing) {
            if (!(tree.getExpression() instanceof AssignmentTree) || text.charAt((int) end(tree) - 1) == ';') {
                put(tree, ";");
            }
            return super.visitExpressionStatement(tree, nothing);
        }
    }
}
