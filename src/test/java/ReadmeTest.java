import java.io.File;
import java.io.IOException;
import java.nio.file.Files;
import java.nio.file.Path;
import java.util.regex.Matcher;
import java.util.regex.Pattern;

/** README.md: what it says that calls answer and throw, how long an object may be used, and which tests there are. */
public final class ReadmeTest {
    private static final Pattern CALL = Pattern.compile("x\\.(\\w+)\\((.*)\\);");
    private static final Pattern REMARK = Pattern.compile("(throws \\w+|-?\\d+)\\b.*");

    private static int calls;

    public static void main(String[] args) throws IOException {
        String readme = Files.readString(Path.of("README.md"));
        int tests = readme.indexOf("## How to run its tests");
        examples(readme.substring(0, Math.max(0, tests)));
        says(readme);
        Check.end("ReadmeTest");
    }

    /** All examples are calls of one object. */
    private static void examples(String use) {
        Ed x = null;
        Matcher blocks = Pattern.compile("```java\n(.*?)```", Pattern.DOTALL).matcher(use);
        while (blocks.find()) {
            for (String line : blocks.group(1).split("\n")) {
                if (line.startsWith("Foldback x = new Foldback();")) {
                    x = new Ed();
                } else {
                    example(x, line);
                }
            }
        }
        Check.is("calls that are shown", calls > 30, true);
    }

    private static void example(Ed x, String line) {
        String[] halves = line.split(" *// *", 2);
        Matcher call = CALL.matcher(halves[0]);
        Check.is("a call: " + line, x != null && call.matches(), true);
        calls++;
        String answer = x.told(call.group(1), arguments(call.group(2)));
        if (halves.length > 1) {
            Matcher remark = REMARK.matcher(halves[1]);
            Check.is("an answer: " + line, remark.matches(), true);
            Check.is(line, answer, remark.group(1).replace("throws ", ""));
        } else {
            Check.is(line, answer, "0");
        }
    }

    private static int[] arguments(String list) {
        String[] words = list.isEmpty() ? new String[0] : list.split(", *");
        int[] arguments = new int[words.length];
        for (int i = 0; i < words.length; i++) {
            boolean sign = words[i].matches("'.'");
            arguments[i] = sign ? words[i].charAt(1) : words[i].equals("true") ? 1 : words[i].equals("false") ? 0 : Integer.parseInt(words[i]);
        }
        return arguments;
    }

    private static void says(String readme) {
        String words = readme.replace('\n', ' ');
        String[] due = {"An object is used for at most 512 calls after it has been made", "what later calls answer is free", ".ci/run", "../shared/tests",
            "there is no such mark, store, entry, macro, listener, bookmark, node, line, place or index", "another argument is out of range",
            "A call that throws changes nothing"};
        for (String sentence : due) {
            Check.is("README.md says: " + sentence, words.contains(sentence), true);
        }
        for (String file : new File("src/test/java").list()) {
            if (file.endsWith("Test.java")) {
                Check.is("README.md names " + file, words.contains("`" + file.replace(".java", "") + "`"), true);
            }
        }
    }
}
