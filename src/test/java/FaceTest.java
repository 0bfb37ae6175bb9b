import java.io.IOException;
import java.lang.reflect.Executable;
import java.lang.reflect.Field;
import java.lang.reflect.Method;
import java.lang.reflect.Modifier;
import java.nio.file.Files;
import java.nio.file.Path;
import java.util.ArrayList;
import java.util.Arrays;
import java.util.List;
import java.util.Set;
import java.util.TreeSet;
import java.util.stream.Collectors;

/** The class against the document's face, member by member, and those rules of LANGUAGE.md that can be looked up. */
public final class FaceTest {
    private static final Path SOURCE = Path.of("src/main/java/ProofTrimmer.java");

    public static void main(String[] args) throws IOException, IllegalAccessException {
        members();
        nested();
        words();
        lengths();
        Due.end();
    }

    /** The face as the document shows it, a line for each member, without the parameters' names. */
    private static TreeSet<String> shownFace() {
        String document = Due.document();
        int start = document.indexOf("```java\n", document.indexOf("## The public face")) + 8;
        TreeSet<String> face = new TreeSet<>();
        for (String line : document.substring(start, document.indexOf("```", start)).split("\n")) {
            if (line.startsWith("    ")) {
                face.add(line.strip().replaceAll("\\b(int|long|boolean) \\w+(?=[,)])", "$1"));
            }
        }
        return face;
    }

    private static String names(Class<?>[] types) {
        return Arrays.stream(types).map(Class::getSimpleName).collect(Collectors.joining(", "));
    }

    private static String shown(Executable member, String name) {
        String thrown = names(member.getExceptionTypes());
        return Modifier.toString(member.getModifiers()) + " " + name + "(" + names(member.getParameterTypes()) + ")"
            + (thrown.isEmpty() ? "" : " throws " + thrown) + ";";
    }

    private static void members() throws IllegalAccessException {
        Class<?> face = ProofTrimmer.class;
        Due.due("the class", Modifier.toString(face.getModifiers()), "public final");
        TreeSet<String> found = new TreeSet<>();
        for (Executable constructor : face.getDeclaredConstructors()) {
            found.add(shown(constructor, face.getSimpleName()));
        }
        for (Method method : face.getDeclaredMethods()) {
            if (!Modifier.isPrivate(method.getModifiers())) {
                found.add(shown(method, method.getReturnType() + " " + method.getName()));
            }
        }
        for (Field field : face.getDeclaredFields()) {
            if (!Modifier.isPrivate(field.getModifiers())) {
                found.add(Modifier.toString(field.getModifiers()) + " " + field.getType() + " " + field.getName()
                    + " = " + field.get(null) + ";");
            }
        }
        Due.due("the members", found, shownFace());
    }

    private static void nested() {
        List<Class<?>> classes = new ArrayList<>(List.of(ProofTrimmer.class.getDeclaredClasses()));
        for (Class<?> one : classes) {
            int modifiers = one.getModifiers();
            Due.due("static " + one, Modifier.isStatic(modifiers), true);
            Due.due("hidden " + one, Modifier.isPublic(modifiers) || Modifier.isProtected(modifiers), false);
        }
        classes.add(ProofTrimmer.class);
        Set<String> names = Arrays.stream(ProofTrimmer.class.getMethods()).map(Method::getName)
            .collect(Collectors.toSet());
        Due.due("at most twelve classes", classes.size() <= 12, true);
        for (Class<?> one : classes) {
            int fields = 0;
            for (Field field : one.getDeclaredFields()) {
                boolean isStatic = Modifier.isStatic(field.getModifiers());
                fields += isStatic ? 0 : 1;
                Due.due("a static field is final: " + field, !isStatic || Modifier.isFinal(field.getModifiers()), true);
            }
            Due.due("at most twenty fields: " + one, fields <= 20, true);
            for (Method method : one.getDeclaredMethods()) {
                boolean bearsName = names.contains(method.getName());
                boolean isPrivate = Modifier.isPrivate(method.getModifiers());
                Due.due("a private method with a name of the face: " + method, isPrivate && bearsName, false);
                Due.due("at most seven parameters: " + method, method.getParameterCount() <= 7, true);
            }
        }
    }

    private static void words() throws IOException {
        String source = Files.readString(SOURCE);
        String[] ruledOut = {"package ", "::", "finally", "synchronized", "assert ", "Exact(", "while (true)",
            "for (;;)", "getMessage", "nanoTime", "currentTime", "Random", "Thread", "Double.", "Float.", "static {"};
        for (String word : ruledOut) {
            Due.due("the program has " + word, source.contains(word), false);
        }
        for (String line : source.split("\n")) {
            boolean isCase = line.strip().startsWith("case ") || line.strip().startsWith("default ");
            Due.due("a lambda: " + line, line.contains("->") && !isCase, false);
            Due.due("System: " + line, line.replace("System.arraycopy", "").contains("System."), false);
        }
    }

    private static void lengths() throws IOException {
        String[] lines = Files.readString(SOURCE).split("\n");
        int methods = 0;
        for (int i = 0; i < lines.length; i++) {
            if (lines[i].matches("\\s+(?!.*\\b(if|for|while|switch|else|catch|new|return)\\b)[^=;]+\\(.*\\).*\\{")) {
                methods++;
                Due.due("at most sixty lines: " + lines[i], endOf(lines, i) - i < 60, true);
            }
        }
        // All members that the document shows are methods or constructors, but for the constant.
        Due.due("the methods were found", methods >= shownFace().size() - 1, true);
    }

    /** The line where the braces that open in a line are closed. */
    private static int endOf(String[] lines, int from) {
        int depth = 0;
        for (int i = from; i < lines.length; i++) {
            for (char c : lines[i].toCharArray()) {
                depth += c == '{' ? 1 : c == '}' ? -1 : 0;
            }
            if (depth == 0) {
                return i;
            }
        }
        return Integer.MAX_VALUE;
    }
}
