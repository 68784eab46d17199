/** Counts answers, and prints those that are not due; with -Dfirst=true the first one ends the test. */
final class Check {
    interface Call {
        void make();
    }

    static final Class<?> IOOBE = IndexOutOfBoundsException.class;
    static final Class<?> IAE = IllegalArgumentException.class;
    static final Class<?> ISE = IllegalStateException.class;

    private static int right;
    private static int wrong;
    // the sentence of the document that is being tested, if a test names one
    private static String about = "";

    private Check() {
    }

    static void about(String sentence) {
        about = sentence.isEmpty() ? "" : "[" + sentence + "] ";
    }

    static void is(String what, long got, long due) {
        if (got == due) {
            right++;
        } else {
            wrong++;
            System.out.println("WRONG " + about + what + ": answered " + got + ", due is " + due);
            if (Boolean.getBoolean("first")) {
                System.exit(1);
            }
        }
    }

    static void is(String what, boolean got, boolean due) {
        is(what, got ? 1 : 0, due ? 1 : 0);
    }

    static void is(String what, String got, String due) {
        if (!got.equals(due)) {
            System.out.println("  got " + got.replace("\n", "\\n") + ", due " + due.replace("\n", "\\n"));
        }
        is(what, got.equals(due), true);
    }

    static void fails(String what, Class<?> due, Call call) {
        Class<?> got = null;
        try {
            call.make();
        } catch (RuntimeException e) {
            got = e.getClass();
        }
        if (got != due) {
            System.out.println("  threw " + got + ", due " + due);
        }
        is(what + " throws", got == due, true);
    }

    /** Ends the test with exit code 1 if an answer was wrong. */
    static void end(String test) {
        System.out.println(test + ": " + right + " answers right, " + wrong + " wrong");
        if (wrong > 0 || right == 0) {
            System.exit(1);
        }
    }

    // ---- editors in a wanted state

    /** Types a text, each character in a change of its own unless typing joins them. */
    static Ed typed(String text) {
        Ed x = new Ed();
        type(x, text);
        return x;
    }

    static void type(Ed x, String text) {
        for (int i = 0; i < text.length(); i++) {
            x.insert(text.charAt(i));
        }
    }

    /** Types a text as one change of a group. */
    static void block(Ed x, String text) {
        x.open();
        type(x, text);
        x.close();
    }

    static Ed withBlock(String text) {
        Ed x = new Ed();
        block(x, text);
        return x;
    }

    /** Moves the point, however far. */
    static void to(Ed x, int place) {
        while (x.point() != place) {
            int way = place - x.point();
            x.move(Math.max(-50, Math.min(50, way)));
        }
    }

    static String text(Ed x) {
        StringBuilder all = new StringBuilder();
        int length = x.length();
        for (int i = 0; i < length; i++) {
            all.append((char) x.charAt(i));
        }
        return all.toString();
    }

    static String replay(Ed x, int node) {
        StringBuilder all = new StringBuilder();
        int length = x.lengthByReplay(node);
        for (int i = 0; i < length; i++) {
            all.append((char) x.charByReplay(node, i));
        }
        return all.toString();
    }

    static String entry(Ed x, int store, int entry) {
        StringBuilder all = new StringBuilder();
        int length = x.entryLength(store, entry);
        for (int i = 0; i < length; i++) {
            all.append((char) x.entryChar(store, entry, i));
        }
        return all.toString();
    }

    /** All entries of a store with bars between them. */
    static String store(Ed x, int store) {
        StringBuilder all = new StringBuilder();
        int entries = x.entries(store);
        for (int i = 0; i < entries; i++) {
            all.append(i == 0 ? "" : "|").append(entry(x, store, i));
        }
        return all.toString();
    }

    /** An editor whose text has 400 characters, its point at the end. */
    static Ed full() {
        Ed x = new Ed();
        fill(x);
        return x;
    }

    /** Fills an empty text: node 1 has 20 characters, a to t, which register 0 has too, and node 2 has 400. */
    static void fill(Ed x) {
        block(x, "abcdefghijklmnopqrst");
        to(x, 0);
        x.copy(0, 20);
        to(x, 20);
        x.open();
        for (int i = 0; i < 19; i++) {
            x.paste(0);
        }
        x.close();
    }

    /** Lets two listeners chase each other, so that each change with a 'p' or 'q' in the text is refused. */
    static void chase(Ed x) {
        x.listen(0, 'p', 'q', 0);
        x.listen(1, 'q', 'p', 0);
    }

    /** A picture of all that queries tell, to see that a call changed nothing. */
    static String all(Ed x) {
        StringBuilder s = new StringBuilder();
        s.append(text(x)).append(";p").append(x.point()).append(";v").append(x.viewStart()).append(',').append(x.viewEnd());
        for (int m = 0; m < 6; m++) {
            s.append(";m").append(x.markAt(m));
        }
        for (int t = 0; t < 5; t++) {
            s.append(";s").append(store(x, t));
        }
        for (int m = 0; m < 4; m++) {
            s.append(";c").append(x.commands(m));
        }
        for (int b = 0; b < 5; b++) {
            s.append(";b").append(x.bookmarkAt(b));
        }
        s.append(";n").append(x.now()).append(',').append(x.nodes());
        s.append(";f").append(x.failureReason()).append(',').append(x.failureCommand());
        appendNodes(s, x);
        return s.toString();
    }

    private static void appendNodes(StringBuilder s, Ed x) {
        int seen = 0;
        int nodes = x.nodes();
        for (int n = 0; seen < nodes && n < 2000; n++) {
            if (!exists(x, n)) {
                continue;
            }
            seen++;
            s.append(";#").append(n).append('<').append(x.parentOf(n)).append('>').append(x.newestChild(n));
            s.append('*').append(x.stepsOf(n)).append('"').append(replay(x, n)).append('"');
            for (int m = 0; m < 6; m++) {
                s.append(x.markByReplay(n, m)).append(' ');
            }
            for (int t = 0; t < 5; t++) {
                s.append(x.storedByReplay(n, t)).append(' ');
            }
        }
    }

    static boolean exists(Ed x, int node) {
        try {
            x.parentOf(node);
            return true;
        } catch (IndexOutOfBoundsException e) {
            return false;
        }
    }

    static String chain(Ed x) {
        StringBuilder s = new StringBuilder();
        for (int i = 0; i < 8; i++) {
            s.append(x.listenerChain(i)).append(' ');
        }
        return s.toString().trim();
    }

    /** That a call throws, and that neither a query nor a later call tells a difference. */
    static void refuses(String what, Class<?> due, Ed x, Call call) {
        String was = all(x);
        fails(what, due, call);
        is(what + " changes nothing", all(x), was);
        is(what + " leaves no trace", x.traceOfLatestCall(), "");
    }

    // ---- scripts of calls

    /** Makes calls written as "insert a, move -1, copy 0 2"; returns the last answer. */
    static int play(Ed x, String script) {
        int answer = 0;
        for (String call : script.split(", *")) {
            String[] words = call.trim().split(" +");
            int[] arguments = new int[words.length - 1];
            for (int i = 0; i < arguments.length; i++) {
                arguments[i] = number(words[0], words[i + 1]);
            }
            answer = x.call(words[0], arguments);
        }
        return answer;
    }

    /** A single sign stands for its character behind insert, overwrite and search, anything else for a number. */
    private static int number(String call, String word) {
        boolean sign = word.length() == 1 && (call.equals("insert") || call.equals("overwrite") || call.equals("search"));
        return sign ? word.charAt(0) : word.equals("left") ? 0 : word.equals("right") ? 1 : Integer.parseInt(word);
    }

    /** Records a macro by making its calls. */
    static void macro(Ed x, int macro, String script) {
        x.record(macro);
        play(x, script);
        x.stop();
    }
}
