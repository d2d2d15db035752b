import java.io.IOException;
import java.nio.file.Files;
import java.nio.file.Path;
import java.util.ArrayList;
import java.util.LinkedHashMap;
import java.util.List;
import java.util.Map;
import java.util.Set;
import java.util.TreeSet;
import java.util.regex.Matcher;
import java.util.regex.Pattern;

/** The rules of LANGUAGE.md, as far as they can be seen in the text of the class; each check names its rule. */
public final class LanguageTest {
    private static final Path FILE = Path.of("src/main/java/VirtualQueue.java");
    private static final Set<String> LIBRARY = Set.of("String", "StringBuilder", "Integer", "Long", "Math", "System",
            "Arrays", "ArrayList", "List", "Iterator", "Iterable", "Comparable");
    private static final Set<String> EXCEPTIONS = Set.of("IllegalStateException", "IllegalArgumentException",
            "IndexOutOfBoundsException", "ArithmeticException", "UnsupportedOperationException",
            "NoSuchElementException", "RuntimeException");
    private static final Set<String> CALLS = Set.of("Math.max", "Math.min", "Math.abs", "Math.floorDiv",
            "Math.floorMod", "Integer.compare", "Integer.max", "Integer.min", "Integer.bitCount", "Long.compare",
            "Long.bitCount", "System.arraycopy", "Arrays.copyOf", "Arrays.copyOfRange", "Arrays.fill", "List.of");
    private static final Pattern METHOD = Pattern.compile(
            "^ +(?:(public|private|protected) )?(?:static |final |abstract )*(?:[\\w\\[\\]<>]+ )?"
            + "(\\w+)\\(([^)]*)\\)([^;{}=]*)\\{", Pattern.MULTILINE);
    private static final Pattern FIELD = Pattern.compile(
            "^ +(?:private |public )?(static )?(final )?[\\w\\[\\]<>]+ \\w+( = [^;]*)?;", Pattern.MULTILINE);
    private static final Set<String> NO_METHOD = Set.of("if", "for", "while", "switch", "do", "return", "new");

    /** The class without its comments, with every text and sign emptied. */
    private final String code;
    private final Map<String, String> bodies = new LinkedHashMap<>();

    private LanguageTest(String source) {
        code = source.replaceAll("(?s)/\\*.*?\\*/", "").replaceAll("//[^\n]*", "")
                .replaceAll("\"(?:[^\"\\\\]|\\\\.)*\"", "\"\"").replaceAll("'(?:[^'\\\\]|\\\\.)'", "' '");
    }

    public static void main(String[] args) throws IOException {
        LanguageTest test = new LanguageTest(Files.readString(FILE));
        test.words();
        test.types();
        test.library();
        test.exceptions();
        test.classes();
        test.methods();
        test.depth();
        Checks.end();
    }

    private void none(String rule, String pattern) {
        Matcher m = Pattern.compile(pattern).matcher(code);
        while (m.find()) {
            Checks.due(rule + ", line " + code.substring(0, m.start()).lines().count(), m.group().strip(), "nothing");
        }
    }

    private void words() {
        none("rule 1: no package", "\\bpackage\\b");
        none("rule 1: no protected member", "\\bprotected\\b");
        none("rule 2: no lambda, no method reference", "->|::");
        none("rule 5: no static initialiser", "\\bstatic\\s*\\{");
        none("rule 5: static fields are final", "(?m)^ +(private |public )?static (?!final )[\\w\\[\\]]+ \\w+( =|;)");
        none("rule 6: nothing of this", "\\b(finally|synchronized|assert|record|volatile|native|import static)\\b");
        none("rule 6: nothing is caught, so nothing that the machine throws", "\\b(try|catch)\\b");
        none("rule 6: nothing of an object's own", "\\b(hashCode|toString|getMessage|getClass)\\b");
        none("rule 10: texts are not joined by +", "\"\"\\s*\\+|\\+\\s*\"\"");
        none("rule 3: two dimensions at most", "\\[\\]\\[\\]\\[\\]");
        none("rule 13: no clock, randomness, file or thread",
                "\\b(Random|Thread|File|Path|nanoTime|currentTimeMillis)\\b");
    }

    /** Every name with a capital that is no constant is a class: one of its own, or one that the rules list. */
    private void types() {
        Set<String> known = new TreeSet<>(classNames());
        known.addAll(LIBRARY);
        known.addAll(EXCEPTIONS);
        Matcher m = Pattern.compile("\\b[A-Z]\\w*[a-z]\\w*\\b").matcher(code);
        while (m.find()) {
            Checks.due("rules 3 and 4: " + m.group() + " is allowed", known.contains(m.group()), true);
        }
        m = Pattern.compile("\\bimport ([\\w.]+);").matcher(code);
        while (m.find()) {
            Checks.due("rule 4: import " + m.group(1), m.group(1).matches(
                    "java\\.util\\.(Arrays|ArrayList|List|Iterator|NoSuchElementException)"), true);
        }
    }

    private void library() {
        Matcher m = Pattern.compile("\\b(Math|Integer|Long|System|Arrays|List|String)\\.(\\w+)").matcher(code);
        while (m.find()) {
            Checks.due("rule 4: " + m.group() + " is allowed", CALLS.contains(m.group()), true);
        }
    }

    private void exceptions() {
        Matcher m = Pattern.compile("\\bthrow\\b[^;]*;").matcher(code);
        while (m.find()) {
            Matcher thrown = Pattern.compile("throw new (\\w+)\\((\"\")?\\);").matcher(m.group());
            boolean allowed = thrown.matches() && EXCEPTIONS.contains(thrown.group(1));
            Checks.due("rule 6: " + m.group(), allowed, true);
        }
    }

    private List<String> classNames() {
        List<String> names = new ArrayList<>();
        Matcher m = Pattern.compile("\\b(?:class|interface|enum) (\\w+)").matcher(code);
        while (m.find()) {
            names.add(m.group(1));
        }
        return names;
    }

    private void classes() {
        Checks.due("rule 11: some twelve classes", classNames().size() <= 12, true);
        Matcher m = Pattern.compile("\\bclass (\\w+)").matcher(code);
        while (m.find()) {
            String body = body(m.end());
            Checks.due("rule 11: some twenty fields in " + m.group(1) + ": " + fields(body), fields(body) <= 20, true);
        }
        none("rules 1 and 2: classes inside are private (or package-visible) and static",
                "(?m)^ ++(?!(private )?(abstract )?static ).*\\bclass \\w+");
    }

    /** What stands between the next brace and its partner. */
    private String body(int from) {
        int open = code.indexOf('{', from);
        int depth = 0;
        for (int k = open; k < code.length(); k++) {
            depth += code.charAt(k) == '{' ? 1 : code.charAt(k) == '}' ? -1 : 0;
            if (depth == 0) {
                return code.substring(open + 1, k);
            }
        }
        return code.substring(open + 1);
    }

    private static int fields(String body) {
        StringBuilder own = new StringBuilder();
        int depth = 0;
        for (char sign : body.toCharArray()) {
            depth -= sign == '}' ? 1 : 0;
            if (depth == 0) {
                own.append(sign);
            }
            depth += sign == '{' ? 1 : 0;
        }
        int count = 0;
        Matcher m = FIELD.matcher(own);
        while (m.find()) {
            count += m.group(1) == null ? 1 : 0;
        }
        return count;
    }

    private void methods() {
        Set<String> face = new TreeSet<>();
        Set<String> others = new TreeSet<>();
        Matcher m = METHOD.matcher(code);
        while (m.find()) {
            String name = m.group(2);
            if (NO_METHOD.contains(name)) {
                continue;
            }
            String body = body(m.end() - 1);
            bodies.merge(name, body, String::concat);
            ("public".equals(m.group(1)) ? face : others).add(name);
            long lines = body.lines().count();
            int parameters = m.group(3).isBlank() ? 0 : m.group(3).split(",").length;
            Checks.due("rule 11: the lines of " + name + ": " + lines, lines <= 60, true);
            Checks.due("rule 11: the parameters of " + name + ": " + parameters, parameters <= 7, true);
        }
        Checks.due("the constructor and the methods of the face are found", face.size(), 64);
        others.retainAll(face);
        Checks.due("rule 1: what bears the name of a public method", others.toString(), "[]");
    }

    /** Methods of one name are taken for one, so that the depth found is never too small. */
    private void depth() {
        for (String name : bodies.keySet()) {
            int depth = depth(name, 1);
            Checks.due("rule 11: " + name + " goes " + depth + " deep", depth <= 8, true);
        }
    }

    private int depth(String name, int open) {
        int deepest = 0;
        if (open > 20) {
            return deepest;
        }
        Matcher m = Pattern.compile("(?<!new )\\b(\\w+)\\(").matcher(bodies.get(name));
        while (m.find()) {
            if (bodies.containsKey(m.group(1)) && !m.group(1).equals(name)) {
                deepest = Math.max(deepest, depth(m.group(1), open + 1));
            }
        }
        return deepest + 1;
    }
}
