import java.nio.file.Files;
import java.nio.file.Path;
import java.util.ArrayList;
import java.util.HashMap;
import java.util.HashSet;
import java.util.List;
import java.util.Map;
import java.util.Set;
import java.util.regex.Matcher;
import java.util.regex.Pattern;

// The rules of LANGUAGE.md that a look at the source can tell.
public final class LanguageTest {
    private static final String[] FORBIDDEN = {"float", "double", "String", "Math", "Integer", "Long", "System",
        "Arrays", "Object", "import", "package", "null", "throw", "throws", "try", "catch", "finally",
        "synchronized", "assert", "instanceof", "interface", "enum", "record", "protected", "volatile", "var",
        "native", "getClass", "hashCode", "equals", "toString", "->", "::", "@"};
    private static final Pattern METHOD = Pattern.compile(
        "(?m)^    (public|private)( static)?( \\w+)? (\\w+)\\(([^)]*)\\) \\{\\n(.*?)^    \\}\\n", Pattern.DOTALL);
    private static final Set<String> NOT_CALLS = Set.of("if", "for", "while", "switch", "return", "int", "long");
    private static final Check check = new Check();

    public static void main(String[] args) throws Exception {
        String source = Files.readString(Path.of("src/main/java/CelpSpeechCodec.java"));
        String code = source.replaceAll("//[^\n]*", "");
        nothingForbidden(code);
        arraysAreFieldInitialisers(code);
        staticFieldsAreConstants(code);
        methodsAreSmall(code);
        callsAreShallowAndWithoutRecursion(code);
        check.finish();
    }

    private static void nothingForbidden(String code) {
        for (String word : FORBIDDEN) {
            boolean isWord = Character.isLetter(word.charAt(0));
            Pattern pattern = Pattern.compile(isWord ? "\\b" + word + "\\b" : Pattern.quote(word));
            check.due("use of " + word, pattern.matcher(code).find(), false);
        }
    }

    private static void arraysAreFieldInitialisers(String code) {
        Matcher any = Pattern.compile("\\bnew\\b").matcher(code);
        int news = 0;
        while (any.find()) {
            news++;
        }
        Matcher initialiser = Pattern.compile(
            "(?m)^    private final (int|long)\\[\\] \\w+ = new (int|long)\\[[A-Z_]+\\];$").matcher(code);
        int initialisers = 0;
        while (initialiser.find()) {
            initialisers++;
        }
        check.due("arrays made in field initialisers", initialisers, news);
        Matcher fields = Pattern.compile("(?m)^    private (final )?\\w+(\\[\\])? \\w+( = [^;]*)?;$").matcher(code);
        int count = 0;
        while (fields.find()) {
            count++;
        }
        check.due("fields, of which " + count + " are some forty at most", count <= 40 && count >= initialisers, true);
    }

    private static void staticFieldsAreConstants(String code) {
        Matcher statics = Pattern.compile("(?m)^.*\\bstatic\\b[^(\n]*;$").matcher(code);
        while (statics.find()) {
            String line = statics.group();
            boolean constant = line.matches("    (public|private) static final (int|long) [A-Z0-9_]+ = [A-Z0-9_ *+]+;");
            check.due("constant:" + line, constant, true);
        }
        check.due("static initialiser", Pattern.compile("\\bstatic\\s*\\{").matcher(code).find(), false);
    }

    private static void methodsAreSmall(String code) {
        Matcher method = METHOD.matcher(code);
        while (method.find()) {
            String name = method.group(4);
            check.due("lines of " + name + " below 60", method.group(6).lines().count() < 60, true);
            String parameters = method.group(5);
            int count = parameters.isEmpty() ? 0 : parameters.split(",").length;
            check.due("parameters of " + name + " at most 7", count <= 7, true);
        }
    }

    private static void callsAreShallowAndWithoutRecursion(String code) {
        Map<String, List<String>> calls = new HashMap<>();
        Matcher method = METHOD.matcher(code);
        while (method.find()) {
            calls.put(method.group(4), callsIn(method.group(6)));
        }
        check.due("methods were found", calls.size() > 15, true);
        for (String name : calls.keySet()) {
            int depth = depth(name, calls, new HashSet<>());
            check.due("depth of calls from " + name + " at most 6", depth <= 6, true);
        }
    }

    private static List<String> callsIn(String body) {
        List<String> found = new ArrayList<>();
        Matcher call = Pattern.compile("\\b(\\w+)\\(").matcher(body);
        while (call.find()) {
            if (!NOT_CALLS.contains(call.group(1))) {
                found.add(call.group(1));
                noCallInside(body, call.group(1), call.end());
            }
        }
        return found;
    }

    private static void noCallInside(String body, String name, int from) {
        int open = 1;
        int at = from;
        while (open > 0) {
            char c = body.charAt(at);
            open += c == '(' ? 1 : c == ')' ? -1 : 0;
            at++;
        }
        boolean inside = Pattern.compile("\\b\\w+\\(").matcher(body.substring(from, at)).find();
        check.due("a call inside the arguments of " + name, inside, false);
    }

    private static int depth(String name, Map<String, List<String>> calls, Set<String> path) {
        if (!path.add(name)) {
            check.due("recursion through " + name, true, false);
            return 0;
        }
        int deepest = 0;
        for (String called : calls.getOrDefault(name, List.of())) {
            check.due(called + " is a method of the class", calls.containsKey(called), true);
            deepest = Math.max(deepest, depth(called, calls, path));
        }
        path.remove(name);
        return deepest + 1;
    }
}
