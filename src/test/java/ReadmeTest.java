import java.io.IOException;
import java.lang.reflect.Method;
import java.nio.charset.StandardCharsets;
import java.nio.file.DirectoryStream;
import java.nio.file.Files;
import java.nio.file.Path;
import java.util.ArrayList;
import java.util.List;
import java.util.TreeSet;
import java.util.regex.Matcher;
import java.util.regex.Pattern;

/** What README.md says holds of the class as it stands (run from the project's root). */
public final class ReadmeTest {
    private static final Path README = Path.of("README.md"), DOCUMENT = Path.of("../shared/DOC.md");
    private static final Path TESTS = Path.of("src/test/java");
    private static final Pattern CALL = Pattern.compile("x\\.(\\w+)\\(([^)]*)\\);\\s+// ([-A-Z0-9]+)(?:: .*)?");
    private static final Pattern FACE = Pattern.compile("\n    public (?:int|long) (\\w+)\\(([^)]*)\\);");
    private static final Pattern REFUSAL = Pattern.compile("\\b(UNKNOWN|OUTSIDE|STATE|FULL|NO)\\b");
    private static final int CALLS = 28;
    private static final Check CHECK = new Check();

    public static void main(String[] args) throws IOException, ReflectiveOperationException {
        List<String> page = Files.readAllLines(README, StandardCharsets.UTF_8);
        examples(page);
        table(page, Files.readString(DOCUMENT, StandardCharsets.UTF_8));
        refusalNumbers(page);
        testsAreNamed(String.join("\n", page));
        CHECK.end();
    }

    /** Each line of an example is a call with its answer ahead of whatever else its comment says. */
    private static void examples(List<String> page) throws ReflectiveOperationException {
        boolean inside = false;
        int calls = 0;
        ShopWindow x = null;
        TreeSet<String> used = new TreeSet<>();
        for (String line : page) {
            if (line.startsWith("```")) {
                inside = line.equals("```java");
            } else if (inside && line.equals("ShopWindow x = new ShopWindow();")) {
                x = new ShopWindow();
            } else if (inside) {
                Matcher call = CALL.matcher(line);
                boolean read = call.matches() && x != null;
                CHECK.holds("a call with its answer: " + line, read);
                if (read) {
                    CHECK.due(line, answer(x, call.group(1), call.group(2)), number(call.group(3)));
                    used.add(call.group(1));
                    calls++;
                }
            }
        }
        CHECK.holds("examples were found: " + calls + " calls of " + used, calls > CALLS && used.size() > 20);
    }

    private static long answer(ShopWindow x, String name, String text) throws ReflectiveOperationException {
        List<Class<?>> types = new ArrayList<>();
        List<Object> values = new ArrayList<>();
        for (String part : text.isEmpty() ? new String[0] : text.split(", ")) {
            boolean truth = part.equals("true") || part.equals("false");
            types.add(truth ? boolean.class : int.class);
            if (truth) {
                values.add(part.equals("true"));
            } else {
                values.add(part.startsWith("'") ? (int) part.charAt(1) : Integer.parseInt(part));
            }
        }
        Method method = ShopWindow.class.getMethod(name, types.toArray(new Class<?>[0]));
        return ((Number) method.invoke(x, values.toArray())).longValue();
    }

    private static long number(String word) throws ReflectiveOperationException {
        if (word.equals("LOST-2")) {
            return ShopWindow.LOST - 2;
        }
        boolean digits = word.matches("-?\\d+");
        return digits ? Long.parseLong(word) : ShopWindow.class.getField(word).getInt(null);
    }

    /** The calls stand there in the document's order, with its parameters, and with the refusals of their promises. */
    private static void table(List<String> page, String document) {
        List<String> rows = page.stream().filter(line -> line.matches("\\| `\\w+\\(.*")).toList();
        Matcher face = FACE.matcher(document);
        int at = 0;
        for (; face.find(); at++) {
            String head = face.group(1) + "(" + face.group(2).replaceAll("\\b(int|boolean) ", "") + ")";
            String[] cells = at < rows.size() ? rows.get(at).split(" *\\| *", -1) : new String[0];
            boolean whole = cells.length == 6 && cells[1].equals("`" + head + "`");
            CHECK.holds("row " + at + " of the table is that of " + head, whole);
            if (whole) {
                String promise = promiseOf(document, face.group(1));
                TreeSet<String> due = refusals(promise);
                CHECK.holds(head + " is refused with " + due + ", not " + cells[4], due.equals(refusals(cells[4])));
                CHECK.holds(head + ": NONE is told where the document tells it",
                        promise.contains("NONE") == cells[3].contains("NONE") || face.group(1).equals("rid"));
            }
        }
        CHECK.due("calls of the document's face", at, CALLS);
        CHECK.due("rows of the table", rows.size(), at);
    }

    private static String promiseOf(String document, String name) {
        Matcher found = Pattern.compile("\n## Promise \\d+: " + name + "\n\n`[^`]*`: ([^\n]*)\n").matcher(document);
        boolean there = found.find();
        CHECK.holds("the document has a promise of " + name, there);
        return there ? found.group(1) : "";
    }

    private static TreeSet<String> refusals(String text) {
        TreeSet<String> words = new TreeSet<>();
        Matcher found = REFUSAL.matcher(text);
        while (found.find()) {
            words.add(found.group());
        }
        return words;
    }

    private static void refusalNumbers(List<String> page) throws ReflectiveOperationException {
        int rows = 0;
        for (String line : page) {
            Matcher row = Pattern.compile("(?:\\| )?([A-Z]+) (-\\d) (?:\\||is no refusal).*").matcher(line);
            if (row.matches()) {
                CHECK.due("README.md: " + row.group(1), number(row.group(1)), Long.parseLong(row.group(2)));
                rows++;
            }
        }
        CHECK.due("refusals, and NONE", rows, 6);
    }

    private static void testsAreNamed(String page) throws IOException {
        try (DirectoryStream<Path> files = Files.newDirectoryStream(TESTS, "*Test.java")) {
            for (Path file : files) {
                String name = file.getFileName().toString().replace(".java", "");
                CHECK.holds(name + " is named", Pattern.compile("\\b" + name + "\\b").matcher(page).find());
            }
        }
    }
}
