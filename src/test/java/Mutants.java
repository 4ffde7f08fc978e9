import com.sun.source.tree.BinaryTree;
import com.sun.source.tree.BreakTree;
import com.sun.source.tree.CompilationUnitTree;
import com.sun.source.tree.ConditionalExpressionTree;
import com.sun.source.tree.ContinueTree;
import com.sun.source.tree.ExpressionStatementTree;
import com.sun.source.tree.ExpressionTree;
import com.sun.source.tree.IfTree;
import com.sun.source.tree.LiteralTree;
import com.sun.source.tree.ReturnTree;
import com.sun.source.tree.Tree;
import com.sun.source.tree.UnaryTree;
import com.sun.source.util.JavacTask;
import com.sun.source.util.SourcePositions;
import com.sun.source.util.TreePathScanner;
import com.sun.source.util.Trees;
import java.io.ByteArrayOutputStream;
import java.io.IOException;
import java.io.OutputStream;
import java.io.PrintStream;
import java.net.URI;
import java.nio.file.Files;
import java.nio.file.Path;
import java.util.ArrayList;
import java.util.HashMap;
import java.util.List;
import java.util.Map;
import java.util.Set;
import java.util.TreeMap;
import java.util.concurrent.ExecutorService;
import java.util.concurrent.Executors;
import java.util.concurrent.Future;
import javax.tools.ForwardingJavaFileManager;
import javax.tools.JavaCompiler;
import javax.tools.JavaFileObject;
import javax.tools.SimpleJavaFileObject;
import javax.tools.StandardJavaFileManager;
import javax.tools.ToolProvider;

/**
 * No test, but a look at the tests: KiteVote with one thing changed, again and again, each time under the edge tests.
 * It prints the changes that no edge test saw, and the edge tests that saw no change. Some minutes long;
 * java -cp OUT Mutants from the project's folder, where OUT has the tests' classes.
 */
public final class Mutants {
    private static final String[] SUITES = {"TextEdgeTests", "MinuteEdgeTests", "AheadEdgeTests",
        "GustEdgeTests", "PromiseEdgeTests"};
    private static final Path SOURCE = Path.of("src/main/java/KiteVote.java");
    private static final long LIMIT_MILLIS = 20000;

    private record Change(int from, int to, String by, long line) {
    }

    private record Outcome(Change change, String killed, Set<String> parts) {
    }

    private Mutants() {
    }

    public static void main(String[] args) throws Exception {
        String source = Files.readString(SOURCE);
        List<Change> changes = changes(source);
        PrintStream out = System.out;
        System.setOut(new PrintStream(OutputStream.nullOutputStream()));
        Outcome plain = outcome(source, new Change(0, 0, "", 0));
        out.println("unchanged: " + plain.killed + " " + plain.parts);
        ExecutorService workers = Executors.newFixedThreadPool(Runtime.getRuntime().availableProcessors());
        List<Future<Outcome>> runs = new ArrayList<>();
        for (Change c : changes) {
            runs.add(workers.submit(() -> outcome(source, c)));
        }
        int seen = 0;
        int unread = 0;
        Map<String, Integer> kills = new TreeMap<>();
        for (Future<Outcome> run : runs) {
            Outcome o = run.get();
            for (String p : o.parts) {
                kills.merge(p, 1, Integer::sum);
            }
            if (o.killed.isEmpty()) {
                Change c = o.change;
                out.println("line " + c.line + ": " + source.substring(c.from, c.to).replaceAll("\\s+", " ") + "  ->  " + c.by);
            }
            seen += o.killed.isEmpty() ? 0 : 1;
            unread += o.killed.equals("compiler") ? 1 : 0;
        }
        out.println(changes.size() + " changes, " + seen + " seen, " + unread + " of them by the compiler");
        for (String name : names()) {
            if (!kills.containsKey(name)) {
                out.println("saw none: " + name);
            }
        }
        System.exit(0);
    }

    // ---- where what can be changed

    private static List<Change> changes(String source) throws IOException {
        JavaCompiler compiler = ToolProvider.getSystemJavaCompiler();
        StandardJavaFileManager files = compiler.getStandardFileManager(null, null, null);
        JavacTask task = (JavacTask) compiler.getTask(null, files, null, List.of("-proc:none"), null,
            files.getJavaFileObjects(SOURCE.toFile()));
        CompilationUnitTree unit = task.parse().iterator().next();
        List<Change> changes = new ArrayList<>();
        new Finder(source, unit, Trees.instance(task).getSourcePositions(), changes).scan(unit, null);
        return changes;
    }

    private static final class Finder extends TreePathScanner<Void, Void> {
        private static final Map<String, String[]> OTHERS = new HashMap<>();

        static {
            String[][] rows = {{"<", "<=", ">"}, {"<=", "<", ">"}, {">", ">=", "<"}, {">=", ">", "<"}, {"==", "!="},
                {"!=", "=="}, {"&&", "||"}, {"||", "&&"}, {"+", "-"}, {"-", "+"}, {"*", "+"}, {"/", "*"}, {"%", "+"},
                {"&", "|"}, {"|", "&"}, {"<<", ">>"}, {">>", "<<"}, {">>>", ">>"}};
            for (String[] r : rows) {
                OTHERS.put(r[0], java.util.Arrays.copyOfRange(r, 1, r.length));
            }
        }

        private final String source;
        private final CompilationUnitTree unit;
        private final SourcePositions at;
        private final List<Change> changes;

        Finder(String source, CompilationUnitTree unit, SourcePositions at, List<Change> changes) {
            this.source = source;
            this.unit = unit;
            this.at = at;
            this.changes = changes;
        }

        private int from(Tree t) {
            return (int) at.getStartPosition(unit, t);
        }

        private int to(Tree t) {
            return (int) at.getEndPosition(unit, t);
        }

        private String text(Tree t) {
            return source.substring(from(t), to(t));
        }

        private void change(int from, int to, String by) {
            changes.add(new Change(from, to, by, unit.getLineMap().getLineNumber(from)));
        }

        @Override
        public Void visitBinary(BinaryTree t, Void v) {
            int from = to(t.getLeftOperand());
            int to = from(t.getRightOperand());
            String sign = source.substring(from, to).replaceAll("[()\\s]", "");
            for (String by : OTHERS.getOrDefault(sign, new String[0])) {
                int begin = source.indexOf(sign, from);
                change(begin, begin + sign.length(), by);
            }
            return super.visitBinary(t, v);
        }

        @Override
        public Void visitLiteral(LiteralTree t, Void v) {
            if (t.getKind() == Tree.Kind.INT_LITERAL) {
                int value = (Integer) t.getValue();
                change(from(t), to(t), "" + (value + 1));
                if (value > 0) {
                    change(from(t), to(t), "" + (value - 1));
                }
            }
            if (t.getKind() == Tree.Kind.BOOLEAN_LITERAL) {
                change(from(t), to(t), text(t).equals("true") ? "false" : "true");
            }
            return super.visitLiteral(t, v);
        }

        @Override
        public Void visitUnary(UnaryTree t, Void v) {
            switch (t.getKind()) {
                case LOGICAL_COMPLEMENT:
                case UNARY_MINUS:
                    change(from(t), from(t) + 1, "");
                    break;
                case BITWISE_COMPLEMENT:
                    change(from(t), from(t) + 1, "");
                    break;
                default:
                    change(from(t), to(t), text(t).contains("++") ? text(t).replace("++", "--") : text(t).replace("--", "++"));
                    break;
            }
            return super.visitUnary(t, v);
        }

        @Override
        public Void visitConditionalExpression(ConditionalExpressionTree t, Void v) {
            ExpressionTree yes = t.getTrueExpression();
            ExpressionTree no = t.getFalseExpression();
            change(from(t), to(t), text(yes));
            change(from(t), to(t), text(no));
            return super.visitConditionalExpression(t, v);
        }

        @Override
        public Void visitIf(IfTree t, Void v) {
            change(from(t.getCondition()), to(t.getCondition()), "(1 > 0 || " + text(t.getCondition()) + ")");
            change(from(t.getCondition()), to(t.getCondition()), "(1 < 0 && " + text(t.getCondition()) + ")");
            return super.visitIf(t, v);
        }

        @Override
        public Void visitExpressionStatement(ExpressionStatementTree t, Void v) {
            change(from(t), to(t), ";");
            return super.visitExpressionStatement(t, v);
        }

        @Override
        public Void visitReturn(ReturnTree t, Void v) {
            if (t.getExpression() != null) {
                String e = text(t.getExpression());
                change(from(t.getExpression()), to(t.getExpression()), "(" + e + ") + 1");
                change(from(t.getExpression()), to(t.getExpression()), "!(" + e + ")");
            }
            return super.visitReturn(t, v);
        }

        @Override
        public Void visitBreak(BreakTree t, Void v) {
            change(from(t), to(t), ";");
            return super.visitBreak(t, v);
        }

        @Override
        public Void visitContinue(ContinueTree t, Void v) {
            change(from(t), to(t), ";");
            return super.visitContinue(t, v);
        }
    }

    // ---- what the tests say to a change

    private static final class Text extends SimpleJavaFileObject {
        private final String text;

        Text(String text) {
            super(URI.create("string:///KiteVote.java"), Kind.SOURCE);
            this.text = text;
        }

        @Override
        public CharSequence getCharContent(boolean ignore) {
            return text;
        }
    }

    private static final class Bytes extends SimpleJavaFileObject {
        private final ByteArrayOutputStream bytes = new ByteArrayOutputStream();

        Bytes(String name) {
            super(URI.create("mem:///" + name + ".class"), Kind.CLASS);
        }

        @Override
        public OutputStream openOutputStream() {
            return bytes;
        }
    }

    /** Classes of its own for the changed class and for all tests, so that what they count is apart, too. */
    private static final class Loader extends ClassLoader {
        private final Map<String, Bytes> changed;

        Loader(Map<String, Bytes> changed) {
            super(Mutants.class.getClassLoader());
            this.changed = changed;
        }

        @Override
        protected Class<?> loadClass(String name, boolean resolve) throws ClassNotFoundException {
            synchronized (getClassLoadingLock(name)) {
                Class<?> known = findLoadedClass(name);
                if (known != null) {
                    return known;
                }
                byte[] bytes = bytes(name);
                return bytes == null ? super.loadClass(name, resolve) : defineClass(name, bytes, 0, bytes.length);
            }
        }

        private byte[] bytes(String name) {
            if (changed.containsKey(name)) {
                return changed.get(name).bytes.toByteArray();
            }
            if (name.contains(".") || name.startsWith("Mutants")) {
                return null;
            }
            try (var in = getParent().getResourceAsStream(name + ".class")) {
                return in == null ? null : in.readAllBytes();
            } catch (IOException e) {
                return null;
            }
        }
    }

    private static Map<String, Bytes> compiled(String source) {
        JavaCompiler compiler = ToolProvider.getSystemJavaCompiler();
        Map<String, Bytes> classes = new HashMap<>();
        try (var files = new ForwardingJavaFileManager<>(compiler.getStandardFileManager(d -> { }, null, null)) {
            @Override
            public JavaFileObject getJavaFileForOutput(Location l, String name, JavaFileObject.Kind k, javax.tools.FileObject f) {
                return classes.computeIfAbsent(name, Bytes::new);
            }
        }) {
            boolean good = compiler.getTask(null, files, d -> { }, List.of("-proc:none"), null, List.of(new Text(source))).call();
            return good ? classes : null;
        } catch (IOException e) {
            return null;
        }
    }

    @SuppressWarnings("deprecation")
    private static Outcome outcome(String source, Change c) throws Exception {
        Map<String, Bytes> classes = compiled(source.substring(0, c.from) + c.by + source.substring(c.to));
        if (classes == null) {
            return new Outcome(c, "compiler", Set.of());
        }
        Loader loader = new Loader(classes);
        String[] killed = {""};
        Thread t = new Thread(() -> {
            try {
                for (String suite : SUITES) {
                    var tests = loader.loadClass(suite).getDeclaredMethod("tests");
                    tests.setAccessible(true);
                    tests.invoke(null);
                }
            } catch (Exception | Error e) {
                killed[0] = "" + e;
            }
        });
        t.setDaemon(true);
        t.start();
        t.join(LIMIT_MILLIS);
        if (t.isAlive()) {
            t.stop();
            return new Outcome(c, "time", Set.of());
        }
        Set<String> parts = wrongParts(loader);
        return new Outcome(c, parts.isEmpty() ? killed[0] : "tests", parts);
    }

    @SuppressWarnings("unchecked")
    private static Set<String> wrongParts(Loader loader) throws Exception {
        var parts = loader.loadClass("Due").getDeclaredMethod("wrongParts");
        parts.setAccessible(true);
        return (Set<String>) parts.invoke(null);
    }

    private static Set<String> names() throws Exception {
        for (String suite : SUITES) {
            Class.forName(suite).getDeclaredMethod("tests").invoke(null);
        }
        return Edge.names();
    }
}
