import java.io.IOException;
import java.nio.charset.StandardCharsets;
import java.nio.file.Files;
import java.nio.file.Path;
import java.util.regex.Matcher;
import java.util.regex.Pattern;

/** Rules of ../shared/LANGUAGE.md that can be seen in the text of the class (run from the project's root). */
public final class LanguageTest {
    private static final Path SOURCE = Path.of("src/main/java/ShopWindow.java");
    private static final int MOST_LINES = 60, MOST_PARAMETERS = 7, MOST_CLASSES = 12;
    private static final Check CHECK = new Check();

    /** What no rule allows, each with the rule's number. */
    private static final String[] NEVER = {
        "2 ->", "2 ::", "6 \\bsynchronized\\b", "6 \\bassert\\b", "6 \\bfinally\\b", "6 \\btry\\b", "6 \\bcatch\\b",
        "6 \\bthrow\\b", "4 Exact\\b", "5 \\bstatic\\s*\\{", "13 \\bRandom\\b", "13 \\bThread\\b",
        "13 System\\.(?!arraycopy\\b)", "4 \\bnew\\s+(HashMap|TreeMap|HashSet)\\b", "1 \\bprotected\\b",
        "1 \\bpackage\\b", "4 \\bString\\.", "4 \\bMath\\.(?!max\\b|min\\b|abs\\b)",
        "4 \\bInteger\\.(?!bitCount\\b)", "4 \\bArrays\\.(?!fill\\b|copyOf\\b)", "9 while\\s*\\(\\s*true",
        "9 for\\s*\\(\\s*;\\s*;", "6 instanceof",
    };

    public static void main(String[] args) throws IOException {
        String whole = Files.readString(SOURCE, StandardCharsets.ISO_8859_1);
        for (int i = 0; i < whole.length(); i++) {
            char c = whole.charAt(i);
            if (c > 126 || c < 32 && c != '\n') {
                CHECK.holds("sign " + (int) c + " at " + i + " is none of ASCII's", false);
            }
        }
        String bare = withoutComments(whole);
        for (String rule : NEVER) {
            int space = rule.indexOf(' ');
            Matcher found = Pattern.compile(rule.substring(space + 1)).matcher(bare);
            CHECK.holds("rule " + rule.substring(0, space) + ": no " + rule.substring(space + 1), !found.find());
        }
        imports(bare);
        statics(bare);
        methods(bare);
        CHECK.due("rule 1: public classes", count(bare, "\\bpublic (final )?class\\b"), 1);
        CHECK.holds("rule 11: at most twelve classes", count(bare, "\\bclass\\b") <= MOST_CLASSES);
        CHECK.end();
    }

    /** Comments go, lines stay; the signs in quotes go too, so that no brace is counted there. */
    private static String withoutComments(String text) {
        String plain = Pattern.compile("'(\\\\.|[^'\\\\])'").matcher(text).replaceAll("'x'");
        plain = Pattern.compile("//[^\n]*").matcher(plain).replaceAll("");
        Matcher comment = Pattern.compile("/\\*.*?\\*/", Pattern.DOTALL).matcher(plain);
        return comment.replaceAll(found -> found.group().replaceAll("[^\n]", ""));
    }

    private static int count(String text, String pattern) {
        Matcher found = Pattern.compile(pattern).matcher(text);
        int n = 0;
        while (found.find()) {
            n++;
        }
        return n;
    }

    private static void imports(String bare) {
        Matcher found = Pattern.compile("\\bimport\\s+([^;]+);").matcher(bare);
        while (found.find()) {
            String name = found.group(1).trim();
            CHECK.holds("rule 4: import " + name, name.matches("java\\.util\\.(Arrays|ArrayList|List|Iterator)"));
        }
    }

    private static void statics(String bare) {
        Matcher found = Pattern.compile("\\bstatic\\b[^;{(=]*[=;]").matcher(bare);
        while (found.find()) {
            CHECK.holds("rule 5: final: " + found.group(), found.group().contains("static final"));
        }
    }

    private static void methods(String bare) {
        Pattern head = Pattern.compile("\n {4,8}((?:public|private|static|final) )*[\\w\\[\\]]+ \\w+\\(([^)]*)\\) \\{");
        Matcher found = head.matcher(bare);
        int seen = 0;
        while (found.find()) {
            seen++;
            int from = found.end();
            int depth = 1;
            int at = from;
            while (at < bare.length() && depth > 0) {
                depth += bare.charAt(at) == '{' ? 1 : bare.charAt(at) == '}' ? -1 : 0;
                at++;
            }
            int lines = bare.substring(from, at).split("\n", -1).length + 1;
            String name = found.group().trim();
            CHECK.holds("rule 11: " + lines + " lines: " + name, lines <= MOST_LINES);
            String parameters = found.group(2);
            int number = parameters.isEmpty() ? 0 : parameters.split(",").length;
            CHECK.holds("rule 11: " + number + " parameters: " + name, number <= MOST_PARAMETERS);
        }
        CHECK.holds("methods were found", seen > 28);
    }
}
