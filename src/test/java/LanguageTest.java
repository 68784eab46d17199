import java.io.IOException;
import java.nio.file.Files;
import java.nio.file.Path;
import java.util.List;
import java.util.regex.Matcher;
import java.util.regex.Pattern;

/** What can be seen of the rules of LANGUAGE.md in the words of the program alone. */
public final class LanguageTest {
    private static final int LONGEST_METHOD = 60;
    private static final int CLASSES = 12;

    public static void main(String[] args) throws IOException {
        List<String> lines = Files.readAllLines(Path.of("src/main/java/Foldback.java"));
        StringBuilder code = new StringBuilder();
        for (String line : lines) {
            String trimmed = line.trim();
            boolean comment = trimmed.startsWith("//") || trimmed.startsWith("/*") || trimmed.startsWith("*");
            code.append(comment ? "" : line).append('\n');
        }
        words(code.toString());
        texts(code.toString());
        throwsOnlyWhatIsListed(code.toString());
        library(code.toString());
        sizes(code.toString());
        Check.end("LanguageTest");
    }

    private static int count(String regex, String code) {
        Matcher m = Pattern.compile(regex).matcher(code);
        int count = 0;
        while (m.find()) {
            count++;
        }
        return count;
    }

    private static void words(String code) {
        String[] none = {"\\bpackage\\b", "\\btry\\b", "\\bcatch\\b", "\\bfinally\\b", "\\bsynchronized\\b", "\\bassert\\b", "->", "::", "static \\{",
            "Exact\\b", "\\bprotected\\b", "\\bdouble\\b", "\\bfloat\\b", "\\bObject\\b", "\\bequals\\b", "\\bhashCode\\b", "\\btoString\\b",
            "\\bvar\\b", "while \\(true\\)", "for \\(;;\\)", "\\bRandom\\b", "\\bSystem\\.(?!arraycopy)", "[^ -~\\n]"};
        for (String regex : none) {
            Check.is("occurrences of " + regex, count(regex, code), 0);
        }
    }

    /** The only texts are those of exceptions, so that none are joined. */
    private static void texts(String code) {
        int inThrows = count("throw new \\w+\\(\"[^\"]*\"\\);", code);
        Check.is("texts outside throw", count("\"[^\"]*\"", code) - inThrows, 0);
        Check.is("throw in another form", count("\\bthrow\\b", code) - inThrows, 0);
    }

    private static void throwsOnlyWhatIsListed(String code) {
        int listed = count("throw new (IllegalStateException|IllegalArgumentException|IndexOutOfBoundsException)\\(", code);
        Check.is("exceptions that the document does not name", count("throw new", code) - listed, 0);
    }

    private static void library(String code) {
        Check.is("imports", count("import ", code), 2);
        Check.is("the list", count("import java\\.util\\.(ArrayList|List);", code), 2);
        int listed = count("Math\\.(min|max)\\(", code);
        Check.is("other functions of Math", count("Math\\.", code) - listed, 0);
    }

    private static void sizes(String code) {
        Check.is("no more classes than that", count("\\b(class|enum|interface|record) [A-Z]", code) <= CLASSES + 1, true);
        int start = -1;
        int line = 0;
        for (String text : code.split("\n")) {
            line++;
            if (text.matches(" {4}(?: {4})?[\\w<>\\[\\] ]+\\([^)]*\\)[\\w, ]*\\{")) {
                start = line;
                Check.is("parameters at line " + line, count(",", text.replaceAll("throws.*", "")) < 7, true);
            }
            if (start >= 0 && text.matches(" {4}(?: {4})?\\}")) {
                Check.is("length of the method at line " + start, line - start <= LONGEST_METHOD, true);
                start = -1;
            }
        }
    }
}
