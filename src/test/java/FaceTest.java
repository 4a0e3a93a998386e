import java.io.IOException;
import java.lang.reflect.Constructor;
import java.lang.reflect.Field;
import java.lang.reflect.Method;
import java.lang.reflect.Modifier;
import java.lang.reflect.Parameter;
import java.nio.file.Files;
import java.nio.file.Path;
import java.util.Set;
import java.util.StringJoiner;
import java.util.TreeSet;
import java.util.regex.Matcher;
import java.util.regex.Pattern;

/** The class as others see it, held against the lines of "The public face". */
public final class FaceTest {
    private FaceTest() {
    }

    public static void main(String[] args) throws IOException {
        Path document = Path.of("../shared/DOC.md");
        if (Files.exists(document)) {
            compare(told(Files.readString(document)), there());
        } else {
            System.out.println("no " + document + ": its face is not looked up");
        }
        Checks.due("public and final", Modifier.PUBLIC | Modifier.FINAL, HeadCloths.class.getModifiers());
        Checks.due("of no other class", true, HeadCloths.class.getSuperclass() == Object.class);
        Checks.due("without a package", true, HeadCloths.class.getPackageName().isEmpty());
        Checks.end("FaceTest");
    }

    private static void compare(Set<String> told, Set<String> there) {
        Checks.due("lines of the document's face", 45, told.size());
        for (String line : told) {
            Checks.due("told, and there: " + line, true, there.contains(line));
        }
        for (String line : there) {
            Checks.due("there, and told: " + line, true, told.contains(line));
        }
    }

    /** Names of parameters are left out: no caller sees them. */
    private static Set<String> told(String document) {
        Matcher face = Pattern.compile("(?s)## The public face\\s+```java\\s(.*?)```").matcher(document);
        Set<String> lines = new TreeSet<>();
        if (face.find()) {
            for (String line : face.group(1).split("\n")) {
                if (line.startsWith("    public ")) {
                    lines.add(line.strip().replaceAll("(int|boolean) \\w+(?=[,)])", "$1"));
                }
            }
        }
        return lines;
    }

    private static Set<String> there() {
        Set<String> lines = new TreeSet<>();
        for (Field field : HeadCloths.class.getDeclaredFields()) {
            if (!Modifier.isPrivate(field.getModifiers())) {
                lines.add(Modifier.toString(field.getModifiers()) + " " + field.getType() + " " + field.getName() + " = "
                    + HeadCloths.NONE + ";");
            }
        }
        for (Constructor<?> made : HeadCloths.class.getDeclaredConstructors()) {
            lines.add(Modifier.toString(made.getModifiers()) + " " + made.getName() + types(made.getParameters()));
        }
        for (Method method : HeadCloths.class.getDeclaredMethods()) {
            if (!Modifier.isPrivate(method.getModifiers())) {
                lines.add(Modifier.toString(method.getModifiers()) + " " + method.getReturnType() + " " + method.getName()
                    + types(method.getParameters()));
            }
        }
        return lines;
    }

    private static String types(Parameter[] parameters) {
        StringJoiner all = new StringJoiner(", ", "(", ");");
        for (Parameter parameter : parameters) {
            all.add(parameter.getType().toString());
        }
        return all.toString();
    }
}
