import java.io.IOException;
import java.lang.reflect.Method;
import java.nio.file.Files;
import java.nio.file.Path;
import java.util.Map;
import java.util.TreeMap;
import java.util.regex.Matcher;
import java.util.regex.Pattern;

/** The rules of LANGUAGE.md that can be seen in the source's words; .ci/run starts it at the project's top. */
public final class LanguageTest {
    private static final String[] FORBIDDEN = {
        "\\bthrows?\\b", "\\btry\\b", "\\bcatch\\b", "\\bsynchronized\\b", "\\bassert\\b", "->", "::", "Exact\\(",
        "\\bprotected\\b", "\\bpackage\\b", "\\bhashCode\\b", "\\btoString\\b", "\\bThread\\b", "\\bRandom\\b",
        "System\\.(?!arraycopy\\b)", "\\bstatic \\{", "\\bdouble\\b", "\\bfloat\\b", "\\bvar\\b"
    };

    private static final int DEEPEST = 8;
    private static final int MOST_CLASSES = 12;
    private static final int MOST_FIELDS = 20;

    public static void main(String[] args) throws IOException {
        Check check = new Check("LanguageTest");
        String source = Files.readString(Path.of("src/main/java/PrivateLinkRouting.java"));
        String code = source.replaceAll("(?s)/\\*.*?\\*/", "").replaceAll("//.*", "")
            .replaceAll("\"[^\"]*\"", "\"\"");
        for (String word : FORBIDDEN) {
            Matcher matcher = Pattern.compile(word).matcher(code);
            check.due("the source has " + word, matcher.find() ? 1 : 0, 0);
        }
        Matcher imports = Pattern.compile("import ([^;]*);").matcher(code);
        while (imports.find()) {
            check.due("import " + imports.group(1), imports.group(1).equals("java.util.Arrays") ? 1 : 0, 1);
        }
        check.due("only ASCII", source.chars().allMatch(sign -> sign < 128) ? 1 : 0, 1);
        Map<String, String> bodies = checkMethods(check, code.split("\n"));
        for (String name : bodies.keySet()) {
            check.due("calls below " + name + " are not too deep", depth(bodies, name, 1) <= DEEPEST ? 1 : 0, 1);
        }
        checkClasses(check, code.split("\n"));
        check.end();
    }

    /** How deep calls go, this one counted; a method that calls itself goes deeper than any bound. */
    private static int depth(Map<String, String> bodies, String name, int open) {
        int deepest = 1;
        Matcher calls = Pattern.compile("\\b(\\w+)\\(").matcher(bodies.get(name));
        while (calls.find() && open <= DEEPEST) {
            if (bodies.containsKey(calls.group(1))) {
                deepest = Math.max(deepest, 1 + depth(bodies, calls.group(1), open + 1));
            }
        }
        return deepest;
    }

    /** Classes stand at one indentation, and fields (which end with ";", or with what they begin as) at two. */
    private static void checkClasses(Check check, String[] lines) {
        int classes = 0;
        Map<String, Integer> fields = new TreeMap<>();
        String inside = "";
        for (String line : lines) {
            if (line.matches(".*\\bclass \\w+ \\{")) {
                classes++;
                inside = line.replaceAll(".*class (\\w+) .*", "$1");
            }
            String indentation = classes == 1 ? " {4}" : " {8}";
            if (line.matches(indentation + "(private |final )*[\\w\\[\\]]+ \\w+( = .*)?;")) {
                fields.merge(inside, 1, Integer::sum);
            }
            check.due("a static field that is not final: " + line.trim(),
                line.matches(" +(private |public )?static (?!final).*;") ? 1 : 0, 0);
        }
        check.due("classes", classes <= MOST_CLASSES ? 1 : 0, 1);
        check.due("classes with fields", fields.size() > 1 ? 1 : 0, 1);
        fields.forEach((name, number) -> check.due("fields of " + name, number <= MOST_FIELDS ? 1 : 0, 1));
    }

    /**
     * A method's head ends with "{" and has "("; its end is the "}" of the same indentation. Returns the
     * bodies by names, those of methods with the same name together.
     */
    private static Map<String, String> checkMethods(Check check, String[] lines) {
        Map<String, String> bodies = new TreeMap<>();
        Pattern head = Pattern.compile("^( {4}| {8})[a-z].*\\b(\\w+)\\((.*)\\) \\{$");
        for (int i = 0; i < lines.length; i++) {
            Matcher matcher = head.matcher(lines[i]);
            if (!matcher.matches() || lines[i].trim().matches("(if|for|while|switch|else).*")) {
                continue;
            }
            int length = 1;
            StringBuilder body = new StringBuilder();
            while (i + length < lines.length && !lines[i + length].equals(matcher.group(1) + "}")) {
                body.append(lines[i + length]).append('\n');
                length++;
            }
            bodies.merge(matcher.group(2), body.toString(), String::concat);
            String parameters = matcher.group(3);
            check.due("a name of the face inside: " + lines[i].trim(),
                matcher.group(1).length() == 8 && isOfFace(matcher.group(2)) ? 1 : 0, 0);
            check.due("short: " + lines[i].trim(), length <= 60 ? 1 : 0, 1);
            check.due("parameters: " + lines[i].trim(), parameters.split(",").length <= 7 ? 1 : 0, 1);
        }
        return bodies;
    }

    private static boolean isOfFace(String name) {
        for (Method method : PrivateLinkRouting.class.getMethods()) {
            if (method.getName().equals(name)) {
                return true;
            }
        }
        return false;
    }
}
