import java.io.IOException;
import java.nio.file.Files;
import java.nio.file.Path;
import java.util.List;
import java.util.regex.Matcher;
import java.util.regex.Pattern;

/** What of LANGUAGE.md can be read off the source's text: words, signs and methods that are ruled out. */
public final class LanguageTest {
    private static final Path SOURCE = Path.of("src/main/java/GrantRing.java");
    private static final int LONGEST_METHOD = 60;
    private static final int MOST_CLASSES = 12;

    private static final List<String> RULED_OUT = List.of(
            "\\b(throw|throws|try|catch|finally|synchronized|assert|package|import|protected|volatile|native)\\b",
            "->", "::", "\\bSystem\\.(?!arraycopy)", "\\bstatic\\s*\\{", "\\bwhile\\s*\\(\\s*true\\b", "[^\\x00-\\x7F]",
            "\\b(Random|Thread|Object|Optional|Map|Set|Stream)\\b", "\\b(equals|hashCode|toString)\\b");

    private LanguageTest() {
    }

    public static void main(String[] args) throws IOException {
        String text = Files.readString(SOURCE).replaceAll("(?s)/\\*.*?\\*/", "").replaceAll("//[^\n]*", "");
        int wrong = ruledOut(text) + longMethods(text) + tooManyClasses(text);
        System.out.println(wrong == 0 ? "the language is kept to" : wrong + " breaches of the language");
        if (wrong != 0) {
            System.exit(1);
        }
    }

    private static int ruledOut(String text) {
        int wrong = 0;
        for (String pattern : RULED_OUT) {
            Matcher found = Pattern.compile(pattern).matcher(text);
            while (found.find()) {
                wrong++;
                System.out.println("ruled out: " + found.group());
            }
        }
        return wrong;
    }

    private static int longMethods(String text) {
        int wrong = 0;
        Matcher found = Pattern.compile("(?ms)^( +)[^\n;=]*\\([^\n;]*\\) \\{$.*?^\\1\\}$").matcher(text);
        while (found.find()) {
            long lines = found.group().lines().count();
            if (lines > LONGEST_METHOD) {
                wrong++;
                System.out.println(lines + " lines: " + found.group().lines().findFirst().orElse(""));
            }
        }
        return wrong;
    }

    private static int tooManyClasses(String text) {
        long classes = Pattern.compile("\\b(class|record|enum|interface) [A-Z]").matcher(text).results().count();
        if (classes <= MOST_CLASSES) {
            return 0;
        }
        System.out.println(classes + " classes");
        return 1;
    }
}
