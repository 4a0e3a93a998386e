import java.io.IOException;
import java.lang.reflect.Member;
import java.lang.reflect.Method;
import java.lang.reflect.Modifier;
import java.nio.file.Files;
import java.nio.file.Path;
import java.util.List;
import java.util.Set;
import java.util.TreeSet;
import java.util.regex.Matcher;
import java.util.regex.Pattern;

/** Those rules of LANGUAGE.md that a reader of lines can see; run from the project's folder. */
public final class LanguageTest {
    private LanguageTest() {
    }

    public static void main(String[] args) throws IOException {
        String source = Files.readString(Path.of("src/main/java/HeadCloths.java"));
        Checks.due("signs beyond 126", 0, source.chars().filter(c -> c > 126 || c < 32 && c != '\n').count());
        String code = source.replaceAll("(?s)/\\*.*?\\*/|//[^\n]*", "").replaceAll("'[^'\n]*'", "0").replaceAll("\"[^\"\n]*\"", "TEXT");
        words(code);
        statics(code);
        methods(code);
        face();
        Checks.end("LanguageTest");
    }

    private static void none(String rule, String code, String pattern) {
        Matcher m = Pattern.compile(pattern).matcher(code);
        Checks.due(rule + (m.find() ? ": " + m.group() : ""), false, m.reset().find());
    }

    private static void words(String code) {
        none("rule 4: library", code, "\\b(?:import|System\\.(?!arraycopy)|Arrays|Object|Thread|\\w+Exact\\b)");
        none("rule 4: Math, Integer", code, "\\b(?:Math|Integer|Long)\\.(?!max\\b|min\\b|abs\\b|bitCount\\b)\\w+");
        none("rule 6", code, "\\b(?:throw|throws|try|catch|finally|synchronized|assert|volatile|native)\\b");
        none("rule 2", code, "->|::|@");
        none("rule 2: classes that are not static", code, "(?<!static final |public final )\\bclass \\w");
        none("rule 3", code, "\\b(?:double|float|String)\\[|\\bObject\\b|\\bvar ");
        none("rule 9: loops without a bound", code, "while \\(true\\)|for \\(;;\\)|\\bdo \\{");
        none("rule 10: texts joined by +", code, "\\+ TEXT\\b|\\bTEXT\\s*\\+ ");
        int classes = code.split("\\bclass \\w", -1).length - 1;
        Checks.due("rule 11: classes: " + classes, true, classes <= 12);
    }

    private static void statics(String code) {
        for (String line : code.split("\n")) {
            if (line.matches(".*\\bstatic\\b.*=.*")) {
                Checks.due("rule 5: " + line.trim(), true, line.matches(".*\\bstatic final (?:int|String)\\b.*"));
            }
        }
    }

    private static void methods(String code) {
        List<String> lines = List.of(code.split("\n"));
        for (int i = 0; i < lines.size(); i++) {
            Matcher m = Pattern.compile("^( {4}| {8})(?! )[\\w\\[\\] ]+\\(([^)]*)\\) \\{$").matcher(lines.get(i));
            if (m.matches()) {
                int end = i;
                while (!lines.get(end).equals(m.group(1) + "}")) {
                    end++;
                }
                Checks.due("rule 11: long: " + lines.get(i).trim(), true, end - i <= 60);
                Checks.due("rule 11: parameters: " + lines.get(i).trim(), true, m.group(2).split(",").length <= 7);
            }
        }
    }

    private static void face() {
        Set<String> names = new TreeSet<>();
        for (Method method : HeadCloths.class.getDeclaredMethods()) {
            if (Modifier.isPublic(method.getModifiers())) {
                names.add(method.getName());
            }
        }
        Checks.due("rule 1: methods of the face", 43, names.size());
        Checks.due("rule 1: final", true, Modifier.isFinal(HeadCloths.class.getModifiers()));
        for (Class<?> inner : HeadCloths.class.getDeclaredClasses()) {
            Checks.due("rule 2: static: " + inner, true, Modifier.isStatic(inner.getModifiers()));
            Checks.due("rule 11: fields of " + inner, true, fieldsOf(inner) <= 20);
            for (Method method : inner.getDeclaredMethods()) {
                Checks.due("rule 1: name of " + method, false, names.contains(method.getName()));
            }
        }
        hidden(names, HeadCloths.class.getDeclaredMethods());
        hidden(Set.of("NONE"), HeadCloths.class.getDeclaredFields());
    }

    private static long fieldsOf(Class<?> inner) {
        return java.util.Arrays.stream(inner.getDeclaredFields()).filter(f -> !Modifier.isStatic(f.getModifiers())).count();
    }

    private static void hidden(Set<String> open, Member[] members) {
        for (Member member : members) {
            int wanted = open.contains(member.getName()) ? Modifier.PUBLIC : Modifier.PRIVATE;
            Checks.due("rule 1: " + member, true, (member.getModifiers() & wanted) != 0);
        }
    }
}
