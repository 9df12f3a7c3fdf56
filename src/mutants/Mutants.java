import com.sun.source.tree.AssignmentTree;
import com.sun.source.tree.BinaryTree;
import com.sun.source.tree.CompilationUnitTree;
import com.sun.source.tree.CompoundAssignmentTree;
import com.sun.source.tree.ConditionalExpressionTree;
import com.sun.source.tree.ExpressionStatementTree;
import com.sun.source.tree.IfTree;
import com.sun.source.tree.LiteralTree;
import com.sun.source.tree.Tree;
import com.sun.source.tree.UnaryTree;
import com.sun.source.util.JavacTask;
import com.sun.source.util.SourcePositions;
import com.sun.source.util.TreeScanner;
import com.sun.source.util.Trees;
import java.io.File;
import java.io.IOException;
import java.net.URI;
import java.nio.file.Files;
import java.nio.file.Path;
import java.util.ArrayList;
import java.util.List;
import java.util.Map;
import java.util.concurrent.ExecutorService;
import java.util.concurrent.Executors;
import java.util.concurrent.Future;
import java.util.concurrent.TimeUnit;
import javax.tools.JavaCompiler;
import javax.tools.SimpleJavaFileObject;
import javax.tools.ToolProvider;

/**
 * Breaks the class in one place at a time and tells which breaks no test sees. It is run by hand, not by .ci/run:
 * java src/mutants/Mutants.java TESTS-CLASSES TEST.. (from the checkout's top; TESTS-CLASSES as javac -d made them).
 */
public final class Mutants {
    private static final Path SOURCE = Path.of("src/main/java/TearsPost.java");
    private static final int SECONDS = 60;
    private static final Map<String, String[]> SIGNS = Map.ofEntries(
            Map.entry("<", new String[] {"<=", ">="}), Map.entry("<=", new String[] {"<", ">"}),
            Map.entry(">", new String[] {">=", "<="}), Map.entry(">=", new String[] {">", "<"}),
            Map.entry("==", new String[] {"!="}), Map.entry("!=", new String[] {"=="}),
            Map.entry("&&", new String[] {"||"}), Map.entry("||", new String[] {"&&"}),
            Map.entry("+", new String[] {"-"}), Map.entry("-", new String[] {"+"}),
            Map.entry("*", new String[] {"+"}), Map.entry("/", new String[] {"*"}),
            Map.entry("%", new String[] {"/"}), Map.entry("&", new String[] {"|"}),
            Map.entry("|", new String[] {"&"}), Map.entry("<<", new String[] {">>"}),
            Map.entry(">>", new String[] {"<<", ">>>"}));

    private record Break(int begin, int end, String put) {
    }

    private final String source;
    private final List<Break> breaks = new ArrayList<>();
    private final JavaCompiler compiler = ToolProvider.getSystemJavaCompiler();

    private Mutants(String source) {
        this.source = source;
    }

    public static void main(String[] args) throws Exception {
        Mutants mutants = new Mutants(Files.readString(SOURCE));
        mutants.find();
        System.out.println(mutants.breaks.size() + " breaks");
        ExecutorService threads = Executors.newFixedThreadPool(Runtime.getRuntime().availableProcessors());
        List<Future<String>> answers = new ArrayList<>();
        for (Break one : mutants.breaks) {
            answers.add(threads.submit(() -> mutants.answer(one, args)));
        }
        int unseen = 0;
        int broken = 0;
        for (Future<String> answer : answers) {
            String text = answer.get();
            unseen += text.startsWith("UNSEEN") ? 1 : 0;
            broken += text.startsWith("does not compile") ? 1 : 0;
            if (text.startsWith("UNSEEN")) {
                System.out.println(text);
            }
        }
        threads.shutdown();
        System.out.println(unseen + " unseen, " + broken + " that do not compile");
    }

    private void find() throws IOException {
        JavacTask task = (JavacTask) compiler.getTask(null, null, null, List.of("-proc:none"), null,
                compiler.getStandardFileManager(null, null, null).getJavaFileObjects(SOURCE.toFile()));
        for (CompilationUnitTree unit : task.parse()) {
            new Finder(unit, Trees.instance(task).getSourcePositions()).scan(unit, null);
        }
    }

    private final class Finder extends TreeScanner<Void, Void> {
        private final CompilationUnitTree unit;
        private final SourcePositions positions;

        private Finder(CompilationUnitTree unit, SourcePositions positions) {
            this.unit = unit;
            this.positions = positions;
        }

        private int begin(Tree tree) {
            return (int) positions.getStartPosition(unit, tree);
        }

        private int end(Tree tree) {
            return (int) positions.getEndPosition(unit, tree);
        }

        private void put(Tree tree, String text) {
            breaks.add(new Break(begin(tree), end(tree), text));
        }

        @Override
        public Void visitBinary(BinaryTree tree, Void none) {
            int begin = end(tree.getLeftOperand());
            String between = source.substring(begin, begin(tree.getRightOperand()));
            String sign = between.replaceAll("[\\s()]", "");
            for (String other : SIGNS.getOrDefault(sign, new String[0])) {
                breaks.add(new Break(begin, begin + between.length(), between.replace(sign, other)));
            }
            if (sign.equals("&&") || sign.equals("||")) {
                put(tree.getLeftOperand(), sign.equals("&&") ? "true" : "false");
                put(tree.getRightOperand(), sign.equals("&&") ? "true" : "false");
            }
            return super.visitBinary(tree, none);
        }

        @Override
        public Void visitLiteral(LiteralTree tree, Void none) {
            String text = source.substring(begin(tree), end(tree));
            if (tree.getKind() == Tree.Kind.INT_LITERAL) {
                put(tree, "(" + text + " + 1)");
                put(tree, "(" + text + " - 1)");
            } else if (tree.getKind() == Tree.Kind.BOOLEAN_LITERAL) {
                put(tree, text.equals("true") ? "false" : "true");
            } else if (tree.getKind() == Tree.Kind.CHAR_LITERAL) {
                put(tree, "(char) (" + text + " + 1)");
                put(tree, "(char) (" + text + " - 1)");
            }
            return null;
        }

        @Override
        public Void visitIf(IfTree tree, Void none) {
            put(tree.getCondition(), "(" + source.substring(begin(tree.getCondition()), end(tree.getCondition()))
                    + " && false)");
            put(tree.getCondition(), "(" + source.substring(begin(tree.getCondition()), end(tree.getCondition()))
                    + " || true)");
            return super.visitIf(tree, none);
        }

        @Override
        public Void visitConditionalExpression(ConditionalExpressionTree tree, Void none) {
            put(tree, "(" + source.substring(begin(tree.getTrueExpression()), end(tree.getTrueExpression())) + ")");
            put(tree, "(" + source.substring(begin(tree.getFalseExpression()), end(tree.getFalseExpression())) + ")");
            return super.visitConditionalExpression(tree, none);
        }

        @Override
        public Void visitUnary(UnaryTree tree, Void none) {
            String text = source.substring(begin(tree), end(tree));
            if (text.startsWith("!") || text.startsWith("~")) {
                put(tree, text.substring(1));
            }
            return super.visitUnary(tree, none);
        }

        @Override
        public Void visitExpressionStatement(ExpressionStatementTree tree, Void none) {
            boolean counts = tree.getExpression() instanceof UnaryTree;
            boolean assigns = tree.getExpression() instanceof AssignmentTree
                    || tree.getExpression() instanceof CompoundAssignmentTree;
            if (source.charAt(end(tree) - 1) == ';' || assigns || counts) {
                put(tree, source.charAt(end(tree) - 1) == ';' ? ";" : "");
            }
            return super.visitExpressionStatement(tree, none);
        }
    }

    private String answer(Break one, String[] args) throws Exception {
        int line = 1 + (int) source.substring(0, one.begin).chars().filter(sign -> sign == '\n').count();
        String was = source.substring(one.begin, one.end).replaceAll("\\s+", " ");
        String what = "line " + line + ": '" + was + "' as '" + one.put.replaceAll("\\s+", " ") + "'";
        Path folder = Files.createTempDirectory("mutant");
        try {
            if (!compiles(source.substring(0, one.begin) + one.put + source.substring(one.end), folder)) {
                return "does not compile: " + what;
            }
            return (seen(folder, args) ? "seen " : "UNSEEN ") + what;
        } finally {
            delete(folder.toFile());
        }
    }

    private boolean compiles(String text, Path folder) {
        SimpleJavaFileObject file = new SimpleJavaFileObject(URI.create("string:///TearsPost.java"),
                javax.tools.JavaFileObject.Kind.SOURCE) {
            @Override
            public CharSequence getCharContent(boolean ignore) {
                return text;
            }
        };
        return compiler.getTask(new java.io.StringWriter(), null, null,
                List.of("-proc:none", "-nowarn", "-d", folder.toString()), null, List.of(file)).call();
    }

    private static boolean seen(Path folder, String[] args) throws Exception {
        for (int i = 1; i < args.length; i++) {
            Process process = new ProcessBuilder("java", "-XX:TieredStopAtLevel=1", "-XX:+UseSerialGC", "-Xshare:auto",
                    "-cp", folder + ":" + args[0], args[i])
                    .redirectErrorStream(true).redirectOutput(ProcessBuilder.Redirect.DISCARD).start();
            if (!process.waitFor(SECONDS, TimeUnit.SECONDS)) {
                process.destroyForcibly();
                return true;
            }
            if (process.exitValue() != 0) {
                return true;
            }
        }
        return false;
    }

    private static void delete(File file) {
        File[] inside = file.listFiles();
        if (inside != null) {
            for (File one : inside) {
                delete(one);
            }
        }
        file.delete();
    }
}
