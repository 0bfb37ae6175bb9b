import java.io.IOException;
import java.lang.reflect.Method;
import java.lang.reflect.Modifier;
import java.net.URISyntaxException;
import java.nio.file.Files;
import java.nio.file.Path;
import java.util.List;
import java.util.regex.Matcher;
import java.util.regex.Pattern;
import javax.tools.ToolProvider;

/** Makes one program of what README.md shows in Java, and runs it: each call answers what is named behind it. */
public final class ReadmeTest {
    private static final Path README = Path.of("README.md");
    private static final Pattern OBJECT = Pattern.compile("ProofTrimmer \\w+ = new ProofTrimmer\\(\\);");
    private static final String ANSWER = "\"(?:[^\"\\\\]|\\\\.)*\"|throws \\w+|[-.\\w]+";
    private static final Pattern CALL = Pattern.compile("(.*\\));\\s*// (" + ANSWER + ")(:.*)?");

    private final StringBuilder helpers = new StringBuilder();
    private final StringBuilder calls = new StringBuilder();
    private boolean inBlock = false;
    private boolean inHelper = false;

    public static void main(String[] args) throws IOException, URISyntaxException, ReflectiveOperationException {
        List<String> lines = Files.readAllLines(README);
        ReadmeTest shown = new ReadmeTest();
        for (int i = 0; i < lines.size(); i++) {
            shown.take(lines.get(i), "README.md, line " + (i + 1));
        }
        Due.due("the last block of README.md is closed", shown.inBlock, false);
        shown.everyCallShown();
        shown.run();
        Due.end();
    }

    private void take(String line, String where) {
        if (line.startsWith("```")) {
            Due.due(where + ": what begins or ends a block", line, inBlock ? "```" : "```java");
            inBlock = !inBlock;
            inHelper = false;
        } else if (inBlock) {
            inHelper |= line.startsWith("static ");
            if (inHelper) {
                helpers.append(line).append('\n');
            } else {
                takeCall(line, where);
            }
        }
    }

    /** A line that makes an object stays as it is; every other one must be a call with its answer. */
    private void takeCall(String line, String where) {
        Matcher call = CALL.matcher(line);
        if (OBJECT.matcher(line).matches()) {
            calls.append(line).append('\n');
        } else if (call.matches()) {
            String answer = call.group(2);
            String want = answer.startsWith("throws ") ? "\"throws." + answer.substring(7) + "\"" : answer;
            String name = "\"" + where + ": " + call.group(1).replace("\\", "\\\\").replace("\"", "\\\"") + "\"";
            calls.append("Due.due(" + name + ", Due.answer(() -> " + call.group(1) + "), " + want + ");\n");
        } else {
            Due.due(where + ": a call and its answer in " + line, false, true);
        }
    }

    private void everyCallShown() {
        for (Method method : ProofTrimmer.class.getDeclaredMethods()) {
            if (Modifier.isPublic(method.getModifiers())) {
                boolean isShown = (calls.toString() + helpers).contains("." + method.getName() + "(");
                Due.due("README.md shows " + method.getName(), isShown, true);
            }
        }
    }

    /** Compiles the program beside the tests' own classes, so that it may use what they use. */
    private void run() throws IOException, URISyntaxException, ReflectiveOperationException {
        Path classes = Path.of(ReadmeTest.class.getProtectionDomain().getCodeSource().getLocation().toURI());
        Path source = classes.resolve("Shown.java");
        Files.writeString(source, "final class Shown {\n" + helpers + "static void run() {\n" + calls + "}\n}\n");
        int code = ToolProvider.getSystemJavaCompiler().run(null, null, null,
            "-cp", classes.toString(), "-d", classes.toString(), source.toString());
        Due.due("what README.md shows compiles", code, 0);
        if (code == 0) {
            Class.forName("Shown").getDeclaredMethod("run").invoke(null);
        }
    }
}
