import java.io.IOException;
import java.nio.file.Files;
import java.nio.file.Path;
import java.util.List;
import java.util.regex.Matcher;
import java.util.regex.Pattern;

/** What of LANGUAGE.md can be seen in the program's text without a compiler. */
public final class LanguageTest {
    private static final Check check = new Check();

    public static void main(String[] args) throws IOException {
        String source = Files.readString(Path.of("src/main/java/ChalkWall.java"));
        for (int i = 0; i < source.length(); i++) {
            if (source.charAt(i) > 126 || source.charAt(i) < 32 && source.charAt(i) != '\n') {
                check.due("signs of the program's text", 0, source.charAt(i));
            }
        }
        String code = source.replaceAll("(?s)/\\*.*?\\*/", "").replaceAll("//[^\n]*", "");
        only(code, "\\bimport\\s+([\\w.]+);", List.of("java.util.NoSuchElementException"));
        only(code, "\\bthrow\\s+new\\s+(\\w+)", List.of("NoSuchElementException", "IllegalArgumentException"));
        only(code, "\\b(Math\\.\\w+|Integer\\.\\w+|Long\\.\\w+|System\\.\\w+|Arrays\\.\\w+)",
                List.of("Math.min", "Math.max", "Integer.bitCount", "System.arraycopy"));
        never(code, "->", "::", "\\btry\\b", "\\bcatch\\b", "\\bfinally\\b", "\\bsynchronized\\b", "\\bassert\\b",
                "\\bpackage\\b", "\\bdouble\\b", "\\bfloat\\b", "\\bprotected\\b", "\\bgoto\\b", "\\bvar\\b",
                "\\bstatic\\s*\\{", "\\bfor\\s*\\(\\s*;", "while\\s*\\(\\s*true");
        methods(code);
        check.due("classes", true, all(code, "\\bclass\\s+(\\w+)").size() <= 12);
        check.end("LanguageTest");
    }

    private static List<String> all(String code, String pattern) {
        Matcher matcher = Pattern.compile(pattern).matcher(code);
        return matcher.results().map(r -> r.group(r.groupCount() > 0 ? 1 : 0)).toList();
    }

    private static void only(String code, String pattern, List<String> allowed) {
        for (String found : all(code, pattern)) {
            check.due("the program may use " + found, true, allowed.contains(found));
        }
    }

    private static void never(String code, String... patterns) {
        for (String pattern : patterns) {
            check.due("the program has none of " + pattern, 0, all(code, pattern).size());
        }
    }

    /** A method ends where its own indentation closes; the document's would() alone has eight numbers. */
    private static void methods(String code) {
        String[] lines = code.split("\n");
        Pattern head = Pattern.compile("^(\\s+)(?:(?:public|private|static|final) )*[\\w\\[\\]]+ (\\w+)\\(([^()]*)\\).*");
        for (int i = 0; i < lines.length; i++) {
            Matcher matcher = head.matcher(lines[i]);
            if (!matcher.matches() || lines[i].endsWith(";") || lines[i].trim().startsWith("return")) {
                continue;
            }
            int parameters = matcher.group(3).isBlank() ? 0 : matcher.group(3).split(",").length;
            check.due(matcher.group(2) + " takes at most seven", true,
                    parameters <= 7 || matcher.group(2).equals("would"));
            int end = i;
            while (end < lines.length && !lines[end].equals(matcher.group(1) + "}")) {
                end++;
            }
            check.due(matcher.group(2) + " is short", true, end - i <= 60);
        }
    }
}
