import java.io.IOException;
import java.lang.reflect.Field;
import java.lang.reflect.Method;
import java.lang.reflect.Modifier;
import java.nio.file.Files;
import java.nio.file.Path;
import java.util.ArrayList;
import java.util.Arrays;
import java.util.List;
import java.util.TreeSet;

/** The document's face, member by member, and those rules of LANGUAGE.md that can be looked up. */
public final class FaceTest {
    private static final Path SOURCE = Path.of("src/main/java/ProofTrimmer.java");
    private static final List<String> METHODS = List.of(
        "int type(long,int)",
        "int wipe()",
        "int formula() throws IllegalArgumentException",
        "int proof(boolean) throws IllegalStateException,IllegalArgumentException",
        "int check() throws IllegalStateException",
        "int clauses()",
        "int size(int)",
        "int literal(int,int)",
        "int step(int)",
        "boolean marked(int)",
        "int hints(int)",
        "int hint(int,int)",
        "boolean poke(int,int,int)",
        "int verify() throws IllegalStateException",
        "int write() throws IllegalStateException",
        "int written(int)");

    public static void main(String[] args) throws IOException {
        members();
        nested();
        words();
        lengths();
        Due.end();
    }

    private static String names(Class<?>[] types) {
        List<String> names = new ArrayList<>();
        for (Class<?> type : types) {
            names.add(type.getSimpleName());
        }
        return String.join(",", names);
    }

    private static void members() {
        Class<?> face = ProofTrimmer.class;
        Due.due("the class", Modifier.toString(face.getModifiers()), "public final");
        Due.due("the constructors", Arrays.toString(face.getDeclaredConstructors()), "[public ProofTrimmer()]");
        Due.due("NONE", ProofTrimmer.NONE, -1000);
        TreeSet<String> found = new TreeSet<>();
        for (Method method : face.getDeclaredMethods()) {
            if (!Modifier.isPrivate(method.getModifiers())) {
                Due.due("the modifiers of " + method, Modifier.toString(method.getModifiers()), "public");
                String thrown = names(method.getExceptionTypes());
                found.add(method.getReturnType() + " " + method.getName()
                    + "(" + names(method.getParameterTypes()) + ")" + (thrown.isEmpty() ? "" : " throws " + thrown));
            }
        }
        Due.due("the methods", found, new TreeSet<>(METHODS));
        for (Field field : face.getDeclaredFields()) {
            String due = field.getName().equals("NONE") ? "public static final" : "private";
            Due.due("the modifiers of " + field, Modifier.toString(field.getModifiers()).startsWith(due), true);
        }
    }

    private static void nested() {
        List<Class<?>> classes = new ArrayList<>(List.of(ProofTrimmer.class.getDeclaredClasses()));
        for (Class<?> one : classes) {
            int modifiers = one.getModifiers();
            Due.due("static " + one, Modifier.isStatic(modifiers), true);
            Due.due("hidden " + one, Modifier.isPublic(modifiers) || Modifier.isProtected(modifiers), false);
        }
        classes.add(ProofTrimmer.class);
        Due.due("at most twelve classes", classes.size() <= 12, true);
        for (Class<?> one : classes) {
            int fields = 0;
            for (Field field : one.getDeclaredFields()) {
                boolean isStatic = Modifier.isStatic(field.getModifiers());
                fields += isStatic ? 0 : 1;
                Due.due("a static field is final: " + field, !isStatic || Modifier.isFinal(field.getModifiers()), true);
            }
            Due.due("at most twenty fields: " + one, fields <= 20, true);
            for (Method method : one.getDeclaredMethods()) {
                boolean bearsName = METHODS.stream().anyMatch(m -> m.contains(" " + method.getName() + "("));
                boolean isPrivate = Modifier.isPrivate(method.getModifiers());
                Due.due("a private method with a name of the face: " + method, isPrivate && bearsName, false);
                Due.due("at most seven parameters: " + method, method.getParameterCount() <= 7, true);
            }
        }
    }

    private static void words() throws IOException {
        String source = Files.readString(SOURCE);
        String[] ruledOut = {"package ", "::", "finally", "synchronized", "assert ", "Exact(", "while (true)",
            "for (;;)", "getMessage", "nanoTime", "currentTime", "Random", "Thread", "Double.", "Float.", "static {"};
        for (String word : ruledOut) {
            Due.due("the program has " + word, source.contains(word), false);
        }
        for (String line : source.split("\n")) {
            boolean isCase = line.strip().startsWith("case ") || line.strip().startsWith("default ");
            Due.due("a lambda: " + line, line.contains("->") && !isCase, false);
            Due.due("System: " + line, line.replace("System.arraycopy", "").contains("System."), false);
        }
    }

    private static void lengths() throws IOException {
        String[] lines = Files.readString(SOURCE).split("\n");
        int methods = 0;
        for (int i = 0; i < lines.length; i++) {
            if (lines[i].matches("\\s+(?!.*\\b(if|for|while|switch|else|catch|new|return)\\b)[^=;]+\\(.*\\).*\\{")) {
                methods++;
                Due.due("at most sixty lines: " + lines[i], endOf(lines, i) - i < 60, true);
            }
        }
        Due.due("the methods were found", methods >= METHODS.size() + 1, true);
    }

    /** The line where the braces that open in a line are closed. */
    private static int endOf(String[] lines, int from) {
        int depth = 0;
        for (int i = from; i < lines.length; i++) {
            for (char c : lines[i].toCharArray()) {
                depth += c == '{' ? 1 : c == '}' ? -1 : 0;
            }
            if (depth == 0) {
                return i;
            }
        }
        return Integer.MAX_VALUE;
    }
}
