import java.io.IOException;
import java.lang.reflect.Constructor;
import java.lang.reflect.Field;
import java.lang.reflect.Method;
import java.lang.reflect.Modifier;
import java.nio.file.Files;
import java.nio.file.Path;
import java.util.ArrayList;
import java.util.List;
import java.util.Set;
import java.util.TreeSet;
import java.util.regex.Matcher;
import java.util.regex.Pattern;

/** The rules of ../shared/LANGUAGE.md that can be seen in the text of the program and in its compiled classes. */
public final class LanguageTest {
    private static final Path PROGRAM = Path.of("src/main/java/NotchedKeys.java");
    private static final Path DOCUMENT = Path.of("../shared/DOC.md");
    private static final Set<String> THROWN = Set.of("IllegalStateException", "IllegalArgumentException",
            "IndexOutOfBoundsException");
    private static final Set<String> CONSTANTS =
            Set.of("int", "long", "boolean", "char", "String", "int[]", "long[]", "char[]", "byte[]");
    private static final String[] FORBIDDEN = {
        "\\bpackage\\b", "->", "::", "\\bfinally\\b", "\\btry\\b", "\\bcatch\\b", "\\bsynchronized\\b", "\\bassert\\b",
        "\\bDouble\\b", "\\bFloat\\b", "\\bObject\\b", "\\bStrictMath\\b", "\\bThread\\b", "\\bRandom\\b", "Exact\\b",
        "\\bSystem\\.(?!arraycopy\\b)", "\\bMath\\.(?!max\\b|min\\b|abs\\b)", "\\bInteger\\.(?!bitCount\\b)",
        "\\bArrays\\.(?!fill\\b)", "\\bstatic\\s*\\{", "\\bvar\\b", "\\byield\\b", "\\bnative\\b", "\\bvolatile\\b",
        "\\b(equals|hashCode|toString|getClass)\\s*\\(", "@", "\\\\u"
    };

    private static final Check check = new Check();

    private LanguageTest() {
    }

    public static void main(String[] args) throws IOException {
        String text = Files.readString(PROGRAM);
        String code = bare(text);
        for (String forbidden : FORBIDDEN) {
            Matcher matcher = Pattern.compile(forbidden).matcher(code);
            check.due("the program has " + forbidden, Boolean.toString(matcher.find()), "false");
        }
        imports(code);
        thrown(code);
        face();
        groups(text);
        members();
        lengths(code);
        check.due("signs of the text", Boolean.toString(text.chars().allMatch(c -> c < 127)), "true");
        check.end();
    }

    /** The text without comments, and with empty texts in place of written ones. */
    private static String bare(String text) {
        String bare = text.replaceAll("\"(\\\\.|[^\"\\\\])*\"", "\"\"").replaceAll("'(\\\\.|[^'\\\\])'", "'x'");
        bare = Pattern.compile("/\\*.*?\\*/", Pattern.DOTALL).matcher(bare).replaceAll("");
        return bare.replaceAll("//[^\n]*", "");
    }

    private static void imports(String code) {
        Matcher matcher = Pattern.compile("import ([^;]+);").matcher(code);
        while (matcher.find()) {
            check.due("an import", matcher.group(1), "java.util.Arrays");
        }
    }

    private static void thrown(String code) {
        Matcher matcher = Pattern.compile("\\bthrow\\b\\s*(new (\\w+)\\(\"\"\\);)?").matcher(code);
        while (matcher.find()) {
            boolean good = matcher.group(2) != null && THROWN.contains(matcher.group(2));
            check.due(matcher.group() + " is as it may be", Boolean.toString(good), "true");
        }
    }

    /** The public members are those of the document's face, with their throws clauses. */
    private static void face() throws IOException {
        String document = Files.readString(DOCUMENT);
        int from = document.indexOf("```java");
        String face = document.substring(from, document.indexOf("```", from + 3));
        Set<String> due = new TreeSet<>();
        Matcher matcher = Pattern.compile("public (\\w+) (\\w+)\\(([^)]*)\\)( throws [^;]*)?;").matcher(face);
        while (matcher.find()) {
            String parameters = matcher.group(3).replaceAll(" \\w+(,|$)", "$1").replace(" ", "");
            String clause = matcher.group(4) == null ? "" : matcher.group(4).replace(" throws ", "").replace(" ", "");
            due.add(matcher.group(1) + " " + matcher.group(2) + "(" + parameters + ")" + clause);
        }
        Set<String> got = new TreeSet<>();
        for (Method method : NotchedKeys.class.getDeclaredMethods()) {
            if (!Modifier.isPrivate(method.getModifiers())) {
                got.add(method.getReturnType() + " " + method.getName() + "("
                        + names(method.getParameterTypes()) + ")" + names(method.getExceptionTypes()));
                check.due(method + " is of the object", method.getModifiers(), Modifier.PUBLIC);
            }
        }
        check.due("the methods of the document", due.size(), 35);
        check.due("the face", got.toString(), due.toString());
        check.due("the class", NotchedKeys.class.getModifiers(), Modifier.PUBLIC | Modifier.FINAL);
        Constructor<?>[] constructors = NotchedKeys.class.getDeclaredConstructors();
        check.due("constructors", constructors.length, 1);
        check.due("the constructor's parameters", constructors[0].getParameterCount(), 0);
    }

    /** The calls stand in the document's order, ahead of each group the comment that the interface has there. */
    private static void groups(String text) throws IOException {
        List<String> due = new ArrayList<>();
        Matcher group = Pattern.compile("(?m)^Ahead of the calls (.*) the interface says: (---- .*)\\.$")
                .matcher(Files.readString(DOCUMENT));
        while (group.find()) {
            due.add(group.group(2));
            due.addAll(List.of(group.group(1).replace("`", "").split(", ")));
        }
        List<String> got = new ArrayList<>();
        Matcher line = Pattern.compile("(?m)^    (?:// (---- .*)|public \\w+ (\\w+)\\(.*)$").matcher(text);
        while (line.find()) {
            got.add(line.group(1) != null ? line.group(1) : line.group(2));
        }
        check.due("the document's groups and calls", due.size(), 5 + 35);
        check.due("the groups", got.subList(0, Math.min(got.size(), due.size())).toString(), due.toString());
    }

    private static String names(Class<?>[] types) {
        List<String> names = new ArrayList<>();
        for (Class<?> type : types) {
            names.add(type.getSimpleName());
        }
        return String.join(",", names);
    }

    private static void members() {
        Set<String> open = new TreeSet<>();
        for (Method method : NotchedKeys.class.getDeclaredMethods()) {
            if (Modifier.isPublic(method.getModifiers())) {
                open.add(method.getName());
            }
        }
        for (Field field : NotchedKeys.class.getDeclaredFields()) {
            boolean shown = !Modifier.isPrivate(field.getModifiers());
            check.due(field + " is shown", Boolean.toString(shown), Boolean.toString(field.getName().equals("NONE")));
        }
        Class<?>[] inside = NotchedKeys.class.getDeclaredClasses();
        check.due("few classes", Boolean.toString(inside.length <= 11), "true");
        closed(NotchedKeys.class, open);
        for (Class<?> one : inside) {
            check.due(one + " is static", Boolean.toString(Modifier.isStatic(one.getModifiers())), "true");
            check.due(one + " is public", Boolean.toString(Modifier.isPublic(one.getModifiers())), "false");
            closed(one, open);
        }
    }

    private static void closed(Class<?> one, Set<String> open) {
        int fields = 0;
        for (Field field : one.getDeclaredFields()) {
            int modifiers = field.getModifiers();
            fields += Modifier.isStatic(modifiers) ? 0 : 1;
            boolean changes = Modifier.isStatic(modifiers) && !Modifier.isFinal(modifiers);
            check.due(field + " is static and changes", Boolean.toString(changes), "false");
            boolean known = !Modifier.isStatic(modifiers) || CONSTANTS.contains(field.getType().getSimpleName());
            check.due(field + " is of a type for constants", Boolean.toString(known), "true");
        }
        check.due("few fields in " + one, Boolean.toString(fields <= 20), "true");
        for (Method method : one.getDeclaredMethods()) {
            check.due("few parameters of " + method, Boolean.toString(method.getParameterCount() <= 7), "true");
            if (!Modifier.isPublic(method.getModifiers())) {
                check.due(method + " bears a public name", Boolean.toString(open.contains(method.getName())), "false");
            }
        }
    }

    /** Every method is short: a method begins at a line that ends with "{" and is indented as members are. */
    private static void lengths(String code) {
        String[] lines = code.split("\n");
        int methods = 0;
        for (int i = 0; i < lines.length; i++) {
            Matcher matcher = Pattern.compile("^( {4}| {8})[^ ].*\\(.*\\).*\\{$").matcher(lines[i]);
            if (!matcher.matches() || lines[i].strip().matches("(if|for|while|switch|do|else|\\}).*")) {
                continue;
            }
            int end = i;
            while (end < lines.length && !lines[end].equals(matcher.group(1) + "}")) {
                end++;
            }
            methods++;
            check.due("short: " + lines[i].strip(), Boolean.toString(end - i <= 60), "true");
        }
        check.due("methods are found", Boolean.toString(methods > 60), "true");
    }
}
