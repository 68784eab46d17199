import java.util.ArrayList;
import java.util.List;

/**
 * Calls of one editor with what is due, written one beside the other:
 *
 * <pre>
 * insert 'a' = 1; move 1 ! ISE     # what it answers, or what it throws
 * text = "a"                       # also replay N, store N, marks, chain and view
 * </pre>
 *
 * A call that throws is also looked at for what it has changed, which must be nothing; where it is the listeners that
 * went too deep ("! DEPTH"), the chain is left out of this. Short for several calls are: type "ab", block "ab" (typed in
 * a group), to N (move, however far), full (a text of 400 characters), macro N "calls", repeat N "calls".
 */
final class Script {
    private final Ed x;
    private String statement;

    private Script(Ed x) {
        this.x = x;
    }

    static Ed run(String script) {
        return on(new Ed(), script);
    }

    /** Scripts with empty lines between them, each for an editor of its own. */
    static void each(String scripts) {
        for (String script : scripts.split("\n *\n")) {
            run(script);
        }
    }

    static Ed on(Ed x, String script) {
        new Script(x).all(script);
        return x;
    }

    private void all(String script) {
        for (List<String> words : statements(script)) {
            statement = String.join(" ", words).replace("\n", "\\n");
            try {
                one(words);
            } catch (RuntimeException e) {
                Check.is(statement + " threw " + e, 0, 1);
                return;
            }
        }
    }

    // ---- what a statement says

    private void one(List<String> words) {
        int size = words.size();
        if (size > 2 && words.get(size - 2).equals("=")) {
            due(words.subList(0, size - 2), words.get(size - 1));
        } else if (size > 2 && words.get(size - 2).equals("!")) {
            refused(words.subList(0, size - 2), words.get(size - 1));
        } else {
            make(words);
        }
    }

    private void due(List<String> words, String value) {
        if (value.charAt(0) == '"') {
            Check.is(statement, told(words), value.substring(1));
        } else {
            Check.is(statement, make(words), number(value));
        }
    }

    private void refused(List<String> words, String how) {
        boolean deep = how.equals("DEPTH");
        Class<?> due = how.equals("IOOBE") ? Check.IOOBE : how.equals("IAE") ? Check.IAE : Check.ISE;
        String chain = Check.chain(x);
        if (Ed.isQuery(words.get(0))) {
            Check.fails(statement, due, () -> make(words));
            return;
        }
        Check.refuses(statement, due, x, () -> make(words));
        if (!deep) {
            Check.is(statement + " leaves the chain", Check.chain(x), chain);
        }
    }

    private String told(List<String> words) {
        switch (words.get(0)) {
            case "text": return Check.text(x);
            case "replay": return Check.replay(x, number(words.get(1)));
            case "store": return Check.store(x, number(words.get(1)));
            case "chain": return Check.chain(x);
            case "view": return x.viewStart() + " " + x.viewEnd();
            case "marks": return marks();
            default: throw new AssertionError("no such words: " + statement);
        }
    }

    private String marks() {
        StringBuilder s = new StringBuilder();
        for (int i = 0; i < 6; i++) {
            s.append(i == 0 ? "" : " ").append(x.markAt(i));
        }
        return s.toString();
    }

    private int make(List<String> words) {
        switch (words.get(0)) {
            case "type": Check.type(x, words.get(1).substring(1)); return 0;
            case "block": Check.block(x, words.get(1).substring(1)); return 0;
            case "to": Check.to(x, number(words.get(1))); return 0;
            case "full": Check.fill(x); return 0;
            case "macro": return macro(number(words.get(1)), words.get(2).substring(1));
            case "repeat":
                for (int i = 0; i < number(words.get(1)); i++) {
                    all(words.get(2).substring(1));
                }
                return 0;
            default: return x.call(words.get(0), numbers(words, 1));
        }
    }

    private int macro(int macro, String calls) {
        x.record(macro);
        all(calls);
        return x.stop();
    }

    private static int[] numbers(List<String> words, int from) {
        int[] numbers = new int[words.size() - from];
        for (int i = 0; i < numbers.length; i++) {
            numbers[i] = number(words.get(from + i));
        }
        return numbers;
    }

    private static int number(String word) {
        if (word.charAt(0) == '\'') {
            return word.charAt(1);
        }
        switch (word) {
            case "NONE": return Foldback.NONE;
            case "RING": return Foldback.RING;
            case "NOT_ENOUGH": return Foldback.NOT_ENOUGH;
            case "NOT_FOUND": return Foldback.NOT_FOUND;
            case "NO_MARK": return Foldback.NO_MARK;
            case "NO_ENTRY": return Foldback.NO_ENTRY;
            case "TOO_LONG": return Foldback.TOO_LONG;
            case "VIEWS": return Foldback.VIEWS;
            case "TOO_DEEP": return Foldback.TOO_DEEP;
            case "TOO_MANY": return Foldback.TOO_MANY;
            case "right", "true": return 1;
            case "left", "false": return 0;
            case "MIN": return Integer.MIN_VALUE;
            case "MAX": return Integer.MAX_VALUE;
            default: return Integer.parseInt(word);
        }
    }

    // ---- words

    /** The statements of a script; a word in quotes keeps its opening quote. */
    private static List<List<String>> statements(String script) {
        List<List<String>> all = new ArrayList<>();
        List<String> words = new ArrayList<>();
        int i = 0;
        while (i < script.length()) {
            char c = script.charAt(i);
            if (c == '#') {
                i = end(script, i);
            } else if (c == ';' || c == '\n') {
                next(all, words);
                words = new ArrayList<>();
                i++;
            } else if (c == ' ') {
                i++;
            } else {
                i = word(script, i, words);
            }
        }
        next(all, words);
        return all;
    }

    private static int end(String script, int from) {
        int end = script.indexOf('\n', from);
        return end < 0 ? script.length() : end;
    }

    private static void next(List<List<String>> all, List<String> words) {
        if (!words.isEmpty()) {
            all.add(words);
        }
    }

    private static int word(String script, int from, List<String> words) {
        char quote = script.charAt(from);
        if (quote != '\'' && quote != '"') {
            int end = from;
            while (end < script.length() && " ;\n".indexOf(script.charAt(end)) < 0) {
                end++;
            }
            words.add(script.substring(from, end));
            return end;
        }
        StringBuilder word = new StringBuilder().append(quote);
        int i = from + 1;
        // a quote in single quotes is the sign itself
        while (script.charAt(i) != quote || quote == '\'' && i == from + 1) {
            if (script.charAt(i) == '\\') {
                i++;
                word.append(script.charAt(i) == 'n' ? '\n' : script.charAt(i));
            } else {
                word.append(script.charAt(i));
            }
            i++;
        }
        words.add(word.toString());
        return i + 1;
    }
}
