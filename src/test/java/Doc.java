import java.io.IOException;
import java.nio.file.Files;
import java.nio.file.Path;
import java.util.LinkedHashMap;
import java.util.Map;

/**
 * The document, sentence by sentence. A test of edges begins by telling which of its words it is for; at the end no
 * word up to the last promise may be left that no test is for.
 */
final class Doc {
    private static final class Section {
        final StringBuilder words = new StringBuilder();
        boolean[] held;
    }

    private static final Map<String, Section> SECTIONS = read();

    private Doc() {
    }

    private static Map<String, Section> read() {
        Map<String, Section> sections = new LinkedHashMap<>();
        Section section = null;
        try {
            for (String line : Files.readAllLines(Path.of("../shared/DOC.md"))) {
                if (line.startsWith("#")) {
                    section = new Section();
                    sections.put(line.replaceFirst("#+ *", "").replaceFirst("(Promise \\d+):.*", "$1"), section);
                } else if (section != null) {
                    section.words.append(line.trim()).append('\n');
                }
            }
        } catch (IOException e) {
            throw new AssertionError(e);
        }
        for (Section s : sections.values()) {
            s.held = new boolean[s.words.length()];
        }
        return sections;
    }

    /**
     * That what is tested now is what the document says in these words of a section; " ... " in them stands for what
     * comes between on the same line.
     */
    static void says(String name, String... sentences) {
        Section section = SECTIONS.get(name);
        for (String sentence : sentences) {
            boolean found = section != null && hold(section, sentence.split(" \\.\\.\\. "));
            Check.about("");
            Check.is("the document says in " + name + ": " + sentence, found, true);
        }
        Check.about(name + ", " + sentences[0]);
    }

    private static boolean hold(Section section, String[] pieces) {
        boolean found = false;
        for (int from = next(section, pieces[0], 0, false); from >= 0; from = next(section, pieces[0], from + 1, false)) {
            int end = from + pieces[0].length();
            for (int i = 1; i < pieces.length && end >= 0; i++) {
                int place = next(section, pieces[i], end, true);
                end = place < 0 ? -1 : place + pieces[i].length();
            }
            if (end >= 0) {
                found = true;
                java.util.Arrays.fill(section.held, from, end, true);
            }
        }
        return found;
    }

    private static int next(Section section, String piece, int from, boolean onSameLine) {
        int place = section.words.indexOf(piece, from);
        return onSameLine && place >= 0 && section.words.substring(from, place).contains("\n") ? -1 : place;
    }

    /** The names in backticks on the line that begins with these words. */
    static String[] namesAfter(String name, String start) {
        String words = SECTIONS.get(name).words.toString();
        int from = words.indexOf(start);
        String line = words.substring(from, words.indexOf('\n', from));
        return line.substring(line.indexOf('`') + 1, line.lastIndexOf('`')).split("`, `");
    }

    /** That each word from the first line to the last promise is one that a test was for; FaceTest is for the public face. */
    static void leavesNothingOut() {
        Check.about("");
        for (Map.Entry<String, Section> e : SECTIONS.entrySet()) {
            String name = e.getKey();
            if (name.equals("The public face") || name.equals("Not promised")) {
                continue;
            }
            for (String line : e.getValue().words.toString().split("\n")) {
                holdFace(e.getValue(), line);
            }
            Check.is("words of " + name + " that no test is for", leftOut(e.getValue()), "");
        }
    }

    /** FaceTest holds what a call looks like. */
    private static void holdFace(Section section, String line) {
        if (line.matches("`.*\\).*`: .*")) {
            hold(section, new String[] {line.substring(0, line.indexOf("`: "))});
        }
    }

    private static String leftOut(Section section) {
        StringBuilder left = new StringBuilder();
        for (int i = 0; i < section.held.length; i++) {
            char c = section.words.charAt(i);
            if (!section.held[i] && Character.isLetterOrDigit(c)) {
                left.append(c);
            } else if (left.length() > 0 && left.charAt(left.length() - 1) != ' ') {
                left.append(' ');
            }
        }
        return left.toString().trim();
    }
}
