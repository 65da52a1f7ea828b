import java.lang.reflect.Constructor;
import java.lang.reflect.Field;
import java.lang.reflect.Method;
import java.lang.reflect.Modifier;
import java.nio.file.Files;
import java.nio.file.Path;
import java.util.Arrays;
import java.util.Set;
import java.util.TreeSet;
import java.util.regex.Matcher;
import java.util.regex.Pattern;
import java.util.stream.Collectors;

/** The face of the document, and as much of LANGUAGE.md as can be told from the file and its classes. */
public final class LanguageTest {
    private static final Path FILE = Path.of("src/main/java/NoughtSums.java");
    private static final Path DOCUMENT = Path.of("../shared/DOC.md");
    private static int wrong = 0;

    private static void must(boolean holds, String what) {
        if (!holds) {
            wrong++;
            System.out.println(what);
        }
    }

    public static void main(String[] args) throws Exception {
        face();
        members(NoughtSums.class);
        for (Class<?> inside : NoughtSums.class.getDeclaredClasses()) {
            must(Modifier.isStatic(inside.getModifiers()), "rule 2: not static: " + inside);
            members(inside);
        }
        must(NoughtSums.class.getDeclaredClasses().length < 12, "rule 11: more than twelve classes");
        source(Files.readString(FILE));
        System.out.println(wrong == 0 ? "the language is kept to" : wrong + " places are outside the language");
        if (wrong != 0) System.exit(1);
    }

    /** What stands as Java in the document is what can be seen of the class, and nothing else. */
    private static void face() throws Exception {
        String text = Files.readString(DOCUMENT);
        text = text.substring(text.indexOf("```java"), text.indexOf("## Terms"));
        Set<String> due = new TreeSet<>();
        Matcher told = Pattern.compile("public (int|long) (\\w+)\\(([^)]*)\\);").matcher(text);
        while (told.find()) {
            String types = told.group(3).replaceAll("(int|long) \\w+", "$1").replace(" ", "");
            due.add(told.group(1) + " " + told.group(2) + "(" + types + ")");
        }
        Set<String> seen = new TreeSet<>();
        for (Method method : NoughtSums.class.getDeclaredMethods()) {
            if (Modifier.isPrivate(method.getModifiers())) continue;
            must(method.getModifiers() == Modifier.PUBLIC, "rule 1: not just public: " + method);
            String types = Arrays.stream(method.getParameterTypes()).map(Class::getName)
                    .collect(Collectors.joining(","));
            seen.add(method.getReturnType().getName() + " " + method.getName() + "(" + types + ")");
        }
        must(due.size() == 50, "the document's face was not read: " + due);
        must(seen.equals(due), "rule 1: the face is " + seen + ", due is " + due);
        Set<String> constants = new TreeSet<>();
        for (Field field : NoughtSums.class.getDeclaredFields()) {
            if (!Modifier.isPrivate(field.getModifiers())) constants.add(field.getName());
        }
        must(constants.equals(new TreeSet<>(Set.of("NONE", "BAD", "STATE", "FULL", "NOT", "DEAR", "MISSING", "PLACE",
                "BELOW", "VOID"))), "rule 1: other constants: " + constants);
        Constructor<?>[] made = NoughtSums.class.getDeclaredConstructors();
        must(made.length == 1 && made[0].getModifiers() == Modifier.PUBLIC && made[0].getParameterCount() == 0,
                "rule 1: not the one constructor");
        must(NoughtSums.class.getModifiers() == (Modifier.PUBLIC | Modifier.FINAL), "rule 1: not public and final");
    }

    private static void members(Class<?> of) {
        Set<String> open = Arrays.stream(NoughtSums.class.getDeclaredMethods())
                .filter(m -> Modifier.isPublic(m.getModifiers())).map(Method::getName).collect(Collectors.toSet());
        for (Method method : of.getDeclaredMethods()) {
            must(method.getParameterCount() <= 7, "rule 11: more than seven parameters: " + method);
            boolean isFace = of == NoughtSums.class && Modifier.isPublic(method.getModifiers());
            must(isFace || !open.contains(method.getName()), "rule 1: a name of the face: " + method);
        }
        int fields = 0;
        for (Field field : of.getDeclaredFields()) {
            boolean isStatic = Modifier.isStatic(field.getModifiers());
            must(!isStatic || Modifier.isFinal(field.getModifiers()), "rule 5: not final: " + field);
            if (!isStatic) fields++;
        }
        must(fields <= 20, "rule 11: more than twenty fields: " + of);
    }

    private static void source(String text) {
        String code = text.replaceAll("(?s)/\\*.*?\\*/", "").replaceAll("//[^\n]*", "")
                .replaceAll("\"(\\\\.|[^\"\\\\])*\"", "\"\"").replaceAll("'(\\\\.|[^'\\\\])'", "0");
        must(text.chars().allMatch(c -> c == '\n' || (c >= 32 && c < 127)), "rule 3: a sign above 126");
        never(code, "\\b(throw|throws|try|catch|synchronized|assert|package|native|volatile|transient|strictfp)\\b");
        never(code, "\\b(double|float|Object|Long\\.valueOf|hashCode|toString|Random|Thread|Class)\\b");
        never(code, "->|::|@|\\bvar\\b|\\.equals\\b");
        never(code, "\\w+Exact\\b");
        never(code, "static\\s*\\{");
        never(code, "\\bwhile\\s*\\(\\s*true|for\\s*\\(\\s*;\\s*;");
        only(code, "import ([\\w.]+);", "java\\.util\\.(Arrays|ArrayList|List|Iterator)");
        only(code, "\\bSystem\\.(\\w+)", "arraycopy");
        only(code, "\\bArrays\\.(\\w+)", "fill|copyOf|copyOfRange");
        only(code, "\\bclass\\s+(\\w+)", "[A-Z]\\w+");
        // The methods of the classes inside stand four deeper than those of the face.
        int from = 0;
        String[] lines = text.split("\n");
        for (int i = 0; i < lines.length; i++) {
            if (lines[i].matches("( {4}| {8})[\\w].*\\) \\{")) from = i;
            if (lines[i].matches("( {4}| {8})\\}")) must(i - from <= 60, "rule 11: a long method at line " + from);
        }
        // No object in a method: all is made once, in fields and constructors.
        for (String line : code.split("\n")) {
            if (line.matches(".*\\bnew\\b.*")) {
                must(line.matches(" +(private )?final .*|.*rows\\[k\\] = new Row\\(\\);"), "rule 12: made in a call: " + line);
            }
        }
    }

    private static void never(String code, String pattern) {
        Matcher matcher = Pattern.compile(pattern).matcher(code);
        while (matcher.find()) must(false, "not in the language: " + matcher.group());
    }

    private static void only(String code, String pattern, String allowed) {
        Matcher matcher = Pattern.compile(pattern).matcher(code);
        while (matcher.find()) must(matcher.group(1).matches(allowed), "not in the language: " + matcher.group());
    }
}
