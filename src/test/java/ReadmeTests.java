import java.lang.reflect.Method;
import java.lang.reflect.Modifier;
import java.net.URL;
import java.net.URLClassLoader;
import java.nio.file.Files;
import java.nio.file.Path;
import java.util.ArrayList;
import java.util.List;
import java.util.regex.Matcher;
import java.util.regex.Pattern;
import javax.tools.ToolProvider;

/** What README.md shows is run as it stands there, and each answer is looked at; each call of the face is named there. */
public final class ReadmeTests {
    private static final Pattern BLOCK = Pattern.compile("```java\\n(.*?)```", Pattern.DOTALL);
    private static final Pattern ANSWERED = Pattern.compile("(\\w+\\.\\w+\\(.*\\)); +// (-?\\d+|true|false|throws \\w+)\\b.*");

    private ReadmeTests() {
    }

    public static void main(String[] args) throws Exception {
        String readme = Files.readString(Path.of("README.md"));
        calls(readme);
        Due.part("the example of README.md");
        List<String> asked = new ArrayList<>();
        List<String> due = new ArrayList<>();
        List<?> answers = run(program(readme, asked, due));
        Due.is("answers", answers.size(), asked.size());
        Due.is("at least twenty answers", asked.size() >= 20, true);
        for (int i = 0; i < asked.size() && i < answers.size(); i++) {
            Due.is(asked.get(i) + " answered " + answers.get(i) + " for " + due.get(i),
                due.get(i).equals(String.valueOf(answers.get(i))), true);
        }
        Due.close();
    }

    private static void calls(String readme) {
        Due.part("README.md names the calls");
        for (Method m : KiteVote.class.getDeclaredMethods()) {
            if (Modifier.isPublic(m.getModifiers())) {
                Due.is("`" + m.getName() + "` stands there", readme.contains("`" + m.getName() + "`"), true);
            }
        }
    }

    /** The blocks of Java as one class: methods as they are, of the other lines each answer is kept. */
    private static String program(String readme, List<String> asked, List<String> due) {
        StringBuilder methods = new StringBuilder();
        StringBuilder lines = new StringBuilder();
        Matcher block = BLOCK.matcher(readme);
        while (block.find()) {
            if (block.group(1).startsWith("static")) {
                methods.append(block.group(1));
                continue;
            }
            for (String line : block.group(1).split("\n")) {
                Matcher m = ANSWERED.matcher(line);
                if (!m.matches()) {
                    lines.append(line).append('\n');
                    continue;
                }
                asked.add(m.group(1));
                due.add(m.group(2));
                lines.append("try { answers.add(").append(m.group(1)).append("); } catch (RuntimeException e) {")
                    .append(" answers.add(\"throws \" + e.getClass().getSimpleName()); }\n");
            }
        }
        return "public final class Readme {\n" + methods + "public static java.util.List<Object> run() {\n"
            + "java.util.List<Object> answers = new java.util.ArrayList<>();\n" + lines + "return answers;\n}\n}\n";
    }

    private static List<?> run(String program) throws Exception {
        Path folder = Files.createTempDirectory("readme");
        Path source = folder.resolve("Readme.java");
        Path made = folder.resolve("Readme.class");
        try {
            Files.writeString(source, program);
            int code = ToolProvider.getSystemJavaCompiler().run(null, null, null, "-proc:none",
                "-cp", System.getProperty("java.class.path"), "-d", folder.toString(), source.toString());
            Due.is("javac of the example", code, 0);
            try (URLClassLoader loader = new URLClassLoader(new URL[] {folder.toUri().toURL()})) {
                return code == 0 ? (List<?>) loader.loadClass("Readme").getMethod("run").invoke(null) : List.of();
            }
        } finally {
            Files.deleteIfExists(made);
            Files.deleteIfExists(source);
            Files.deleteIfExists(folder);
        }
    }
}
