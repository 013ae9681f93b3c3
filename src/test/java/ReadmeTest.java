import java.lang.reflect.InvocationTargetException;
import java.lang.reflect.Method;
import java.lang.reflect.Modifier;
import java.net.URI;
import java.nio.charset.StandardCharsets;
import java.nio.file.Files;
import java.nio.file.Path;
import java.util.List;
import java.util.regex.Matcher;
import java.util.regex.Pattern;
import javax.tools.JavaCompiler;
import javax.tools.SimpleJavaFileObject;
import javax.tools.ToolProvider;

/** Runs the examples of README.md: behind // stands what a call answers. Each example is a method of one class. */
final class ReadmeTest {
    private static final Pattern LINE = Pattern.compile("(?:int (\\w+) = )?(.*);\\s+// (throws \\w+|[^:]+)(?:: .*)?");
    private static final String MADE = "ReadmeExamples";

    private final StringBuilder source = new StringBuilder();
    private int examples;
    private int answers;

    private ReadmeTest() {
    }

    /** A source text that stands in no file. */
    private static final class Text extends SimpleJavaFileObject {
        private final String text;

        Text(String text) {
            super(URI.create("string:///" + MADE + ".java"), Kind.SOURCE);
            this.text = text;
        }

        @Override
        public CharSequence getCharContent(boolean ignoreErrors) {
            return text;
        }
    }

    public static void main(String[] args) throws Exception {
        String readme = Files.readString(Path.of("README.md"), StandardCharsets.UTF_8);
        new ReadmeTest().run(readme.split("\n"));
        allCallsAreTold(readme);
        Check.end();
    }

    private void run(String[] lines) throws Exception {
        source.append("final class ").append(MADE).append(" {\n");
        boolean isInside = false;
        for (int i = 0; i < lines.length; i++) {
            if (lines[i].equals("```java")) {
                source.append("static void example").append(examples).append("() {\n");
                isInside = true;
                examples++;
            } else if (isInside && lines[i].equals("```")) {
                source.append("}\n");
                isInside = false;
            } else if (isInside) {
                add(i + 1, lines[i]);
            }
        }
        source.append("}\n");
        Check.due("examples were found", examples > 0 && answers > examples, true);
        runExamples(compile());
    }

    private void add(int number, String line) {
        Matcher told = LINE.matcher(line);
        if (!told.matches()) {
            Check.due("line " + number + " has no remark", line.contains("//"), false);
            source.append(line).append('\n');
            return;
        }
        answers++;
        String what = "\"README.md line " + number + "\", ";
        String call = told.group(2);
        String answer = told.group(3).trim();
        if (answer.startsWith("throws ")) {
            source.append("Check.refused(" + what + answer.substring(7) + ".class, () -> " + call + ");\n");
        } else if (told.group(1) != null) {
            source.append("int " + told.group(1) + " = " + call + ";\n");
            source.append("Check.due(" + what + told.group(1) + ", " + answer + ");\n");
        } else {
            source.append("Check.due(" + what + call + ", " + answer + ");\n");
        }
    }

    /** The classes go beside those of the tests, so that they see them. */
    private Class<?> compile() throws Exception {
        Path place = Path.of(ReadmeTest.class.getProtectionDomain().getCodeSource().getLocation().toURI());
        JavaCompiler compiler = ToolProvider.getSystemJavaCompiler();
        List<String> options = List.of("-d", place.toString(), "-cp", place.toString(), "-proc:none");
        boolean isMade = compiler.getTask(null, null, null, options, null, List.of(new Text(source.toString()))).call();
        Check.due("the examples are compiled", isMade, true);
        return isMade ? Class.forName(MADE) : null;
    }

    private void runExamples(Class<?> made) throws Exception {
        for (int example = 0; made != null && example < examples; example++) {
            Method method = made.getDeclaredMethod("example" + example);
            method.setAccessible(true);
            try {
                method.invoke(null);
            } catch (InvocationTargetException thrown) {
                Check.due("example " + example, "throws " + thrown.getCause(), "no exception");
            }
        }
    }

    /** Each call stands at the head of a row of a table, with its parameters in their order, as many as it has. */
    private static void allCallsAreTold(String readme) {
        for (Method method : RolloutHall.class.getDeclaredMethods()) {
            if (Modifier.isPublic(method.getModifiers())) {
                Matcher row = Pattern.compile("\\| `" + method.getName() + "\\(([^)]*)\\)` \\|").matcher(readme);
                boolean isTold = row.find();
                Check.due(method.getName() + " is told", isTold, true);
                int parameters = !isTold || row.group(1).isEmpty() ? 0 : row.group(1).split(", ").length;
                Check.due("parameters of " + method.getName(), parameters, method.getParameterCount());
            }
        }
    }
}
