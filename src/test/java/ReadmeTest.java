import java.io.ByteArrayOutputStream;
import java.io.IOException;
import java.io.PrintStream;
import java.nio.charset.StandardCharsets;
import java.nio.file.DirectoryStream;
import java.nio.file.Files;
import java.nio.file.Path;
import java.util.ArrayList;
import java.util.List;
import java.util.Map;
import java.util.Set;
import java.util.TreeMap;
import java.util.TreeSet;
import java.util.regex.Matcher;
import java.util.regex.Pattern;

/** README.md tells the truth: its example is the program that runs here and answers as shown; its tables are whole. */
public final class ReadmeTest {
    private static final Path README = Path.of("README.md");
    private static final Path TESTS = Path.of("src/test/java");

    private static final Pattern JAVA_BLOCK = Pattern.compile("(?ms)^```java\n(.*?)^```$");
    private static final Pattern PRINTING = Pattern.compile("System\\.out\\.println\\(.*\\); *// ([^:]*)(: .*)?");
    private static final Pattern CODE_ROW = Pattern.compile("(?m)^\\| `([A-Z_]+)` \\| (-?\\d+) \\| [^|]+ \\|$");
    private static final Pattern CALL_ROW = Pattern.compile("(?m)^\\| `((?:int|long) (\\w+)\\(.*?\\))` \\|(.*)$");
    private static final Pattern CODE_NAME = Pattern.compile("`([A-Z_]+)`");

    private int wrong = 0;

    private ReadmeTest() {
    }

    public static void main(String[] args) throws IOException {
        ReadmeTest test = new ReadmeTest();
        String text = Files.readString(README);
        test.checkExample(text);
        test.checkCodes(text);
        test.checkCalls(text);
        test.checkTests(text);
        System.out.println(test.wrong == 0 ? "README.md is as due" : test.wrong + " faults of README.md");
        if (test.wrong != 0) {
            System.exit(1);
        }
    }

    private void due(String what, Object got, Object want) {
        if (!got.equals(want)) {
            wrong++;
            System.out.println(what + " is " + got + ", due is " + want);
        }
    }

    private void checkExample(String text) throws IOException {
        String program = Files.readString(TESTS.resolve("Example.java"));
        List<String> blocks = JAVA_BLOCK.matcher(text).results().map(found -> found.group(1)).toList();
        due("the Java in README.md", blocks, List.of(program));
        List<String> shown = new ArrayList<>();
        for (String line : program.lines().toList()) {
            if (line.contains("println")) {
                Matcher found = PRINTING.matcher(line.strip());
                shown.add(found.matches() ? found.group(1) : "nothing shown: " + line.strip());
            }
        }
        due("what the example shows", shown, printedByExample());
    }

    private static List<String> printedByExample() {
        ByteArrayOutputStream caught = new ByteArrayOutputStream();
        PrintStream screen = System.out;
        System.setOut(new PrintStream(caught, true, StandardCharsets.UTF_8));
        try {
            Example.main(new String[0]);
        } finally {
            System.setOut(screen);
        }
        return caught.toString(StandardCharsets.UTF_8).lines().toList();
    }

    private void checkCodes(String text) {
        Map<String, Integer> told = new TreeMap<>();
        Matcher row = CODE_ROW.matcher(text);
        while (row.find()) {
            told.put(row.group(1), Integer.parseInt(row.group(2)));
        }
        due("the table of codes", told, new TreeMap<>(Calls.CODES));
    }

    private void checkCalls(String text) {
        Set<String> told = new TreeSet<>();
        Matcher row = CALL_ROW.matcher(text);
        while (row.find()) {
            told.add(row.group(1).replaceAll("(int|boolean) \\w+(?=[,)])", "$1").replace(", ", ","));
            due("the codes of " + row.group(2), codesIn(row.group(3)), codesOf(row.group(2)));
        }
        due("the table of calls", told, new TreeSet<>(FaceTest.METHODS));
    }

    private static List<Integer> codesIn(String cells) {
        return CODE_NAME.matcher(cells).results().map(found -> Calls.CODES.get(found.group(1))).toList();
    }

    /** The -1 of look is no code. */
    private static List<Integer> codesOf(String call) {
        List<Integer> codes = new ArrayList<>();
        for (int code : Calls.REFUSALS.get(call)) {
            if (!call.equals("look")) {
                codes.add(code);
            }
        }
        return codes;
    }

    private void checkTests(String text) throws IOException {
        try (DirectoryStream<Path> files = Files.newDirectoryStream(TESTS, "*Test.java")) {
            for (Path file : files) {
                String name = file.getFileName().toString().replace(".java", "");
                due("whether README.md names " + name, text.contains("`" + name + "`"), true);
            }
        }
    }
}
