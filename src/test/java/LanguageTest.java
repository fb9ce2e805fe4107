import java.io.IOException;
import java.nio.file.Files;
import java.nio.file.Path;
import java.util.regex.Matcher;
import java.util.regex.Pattern;

/** The rules of LANGUAGE.md that can be seen in the source's words; .ci/run starts it at the project's top. */
public final class LanguageTest {
    private static final String[] FORBIDDEN = {
        "\\bthrows?\\b", "\\btry\\b", "\\bcatch\\b", "\\bsynchronized\\b", "\\bassert\\b", "->", "::", "Exact\\(",
        "\\bprotected\\b", "\\bpackage\\b", "\\bhashCode\\b", "\\btoString\\b", "\\bThread\\b", "\\bRandom\\b",
        "System\\.(?!arraycopy\\b)", "\\bstatic \\{", "\\bdouble\\b", "\\bfloat\\b", "\\bvar\\b"
    };

    public static void main(String[] args) throws IOException {
        Check check = new Check("LanguageTest");
        String source = Files.readString(Path.of("src/main/java/PrivateLinkRouting.java"));
        String code = source.replaceAll("(?s)/\\*.*?\\*/", "").replaceAll("//.*", "")
            .replaceAll("\"[^\"]*\"", "\"\"");
        for (String word : FORBIDDEN) {
            Matcher matcher = Pattern.compile(word).matcher(code);
            check.due("the source has " + word, matcher.find() ? 1 : 0, 0);
        }
        Matcher imports = Pattern.compile("import ([^;]*);").matcher(code);
        while (imports.find()) {
            check.due("import " + imports.group(1), imports.group(1).equals("java.util.Arrays") ? 1 : 0, 1);
        }
        check.due("only ASCII", source.chars().allMatch(sign -> sign < 128) ? 1 : 0, 1);
        checkMethods(check, code.split("\n"));
        check.end();
    }

    /** A method's head ends with "{" and has "("; its end is the "}" of the same indentation. */
    private static void checkMethods(Check check, String[] lines) {
        Pattern head = Pattern.compile("^( {4}| {8})[a-z].*\\w+\\((.*)\\) \\{$");
        for (int i = 0; i < lines.length; i++) {
            Matcher matcher = head.matcher(lines[i]);
            if (!matcher.matches() || lines[i].trim().matches("(if|for|while|switch|else).*")) {
                continue;
            }
            int length = 1;
            while (i + length < lines.length && !lines[i + length].equals(matcher.group(1) + "}")) {
                length++;
            }
            String parameters = matcher.group(2);
            check.due("short: " + lines[i].trim(), length <= 60 ? 1 : 0, 1);
            check.due("parameters: " + lines[i].trim(), parameters.split(",").length <= 7 ? 1 : 0, 1);
        }
    }
}
