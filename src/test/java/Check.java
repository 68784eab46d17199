/** Counts answers, and prints those that are not due. */
final class Check {
    interface Call {
        void make();
    }

    static final Class<?> IOOBE = IndexOutOfBoundsException.class;
    static final Class<?> IAE = IllegalArgumentException.class;
    static final Class<?> ISE = IllegalStateException.class;

    private static int right;
    private static int wrong;

    private Check() {
    }

    static void is(String what, long got, long due) {
        if (got == due) {
            right++;
        } else {
            wrong++;
            System.out.println("WRONG " + what + ": answered " + got + ", due is " + due);
        }
    }

    static void is(String what, boolean got, boolean due) {
        is(what, got ? 1 : 0, due ? 1 : 0);
    }

    static void is(String what, String got, String due) {
        if (!got.equals(due)) {
            System.out.println("  got " + got.replace("\n", "\\n") + ", due " + due.replace("\n", "\\n"));
        }
        is(what, got.equals(due), true);
    }

    static void fails(String what, Class<?> due, Call call) {
        Class<?> got = null;
        try {
            call.make();
        } catch (RuntimeException e) {
            got = e.getClass();
        }
        if (got != due) {
            System.out.println("  threw " + got + ", due " + due);
        }
        is(what + " throws", got == due, true);
    }

    /** Ends the test with exit code 1 if an answer was wrong. */
    static void end(String test) {
        System.out.println(test + ": " + right + " answers right, " + wrong + " wrong");
        if (wrong > 0 || right == 0) {
            System.exit(1);
        }
    }

    // ---- editors in a wanted state

    /** Types a text, each character in a change of its own unless typing joins them. */
    static Foldback typed(String text) {
        Foldback x = new Foldback();
        type(x, text);
        return x;
    }

    static void type(Foldback x, String text) {
        for (int i = 0; i < text.length(); i++) {
            x.insert(text.charAt(i));
        }
    }

    /** Types a text as one change of a group. */
    static void block(Foldback x, String text) {
        x.open();
        type(x, text);
        x.close();
    }

    static Foldback withBlock(String text) {
        Foldback x = new Foldback();
        block(x, text);
        return x;
    }

    /** Moves the point, however far. */
    static void to(Foldback x, int place) {
        while (x.point() != place) {
            int way = place - x.point();
            x.move(Math.max(-50, Math.min(50, way)));
        }
    }

    static String text(Foldback x) {
        StringBuilder all = new StringBuilder();
        for (int i = 0; i < x.length(); i++) {
            all.append((char) x.charAt(i));
        }
        return all.toString();
    }

    static String replay(Foldback x, int node) {
        StringBuilder all = new StringBuilder();
        for (int i = 0; i < x.lengthByReplay(node); i++) {
            all.append((char) x.charByReplay(node, i));
        }
        return all.toString();
    }

    static String entry(Foldback x, int store, int entry) {
        StringBuilder all = new StringBuilder();
        for (int i = 0; i < x.entryLength(store, entry); i++) {
            all.append((char) x.entryChar(store, entry, i));
        }
        return all.toString();
    }

    /** All entries of a store with bars between them. */
    static String store(Foldback x, int store) {
        StringBuilder all = new StringBuilder();
        for (int i = 0; i < x.entries(store); i++) {
            all.append(i == 0 ? "" : "|").append(entry(x, store, i));
        }
        return all.toString();
    }

    /** An editor whose text has 400 characters, its point at the end. */
    static Foldback full() {
        Foldback x = withBlock("abcdefghijklmnopqrst");
        to(x, 0);
        x.copy(0, 20);
        to(x, 20);
        x.open();
        for (int i = 0; i < 19; i++) {
            x.paste(0);
        }
        x.close();
        return x;
    }

    /** Lets two listeners chase each other, so that each change with a 'p' or 'q' in the text is refused. */
    static void chase(Foldback x) {
        x.listen(0, 'p', 'q', 0);
        x.listen(1, 'q', 'p', 0);
    }

    /** A picture of all that queries tell, to see that a call changed nothing. */
    static String all(Foldback x) {
        StringBuilder s = new StringBuilder();
        s.append(text(x)).append(";p").append(x.point()).append(";v").append(x.viewStart()).append(',').append(x.viewEnd());
        for (int m = 0; m < 6; m++) {
            s.append(";m").append(x.markAt(m));
        }
        for (int t = 0; t < 5; t++) {
            s.append(";s").append(store(x, t));
        }
        for (int m = 0; m < 4; m++) {
            s.append(";c").append(x.commands(m));
        }
        for (int b = 0; b < 5; b++) {
            s.append(";b").append(x.bookmarkAt(b));
        }
        s.append(";n").append(x.now()).append(',').append(x.nodes());
        s.append(";f").append(x.failureReason()).append(',').append(x.failureCommand());
        appendNodes(s, x);
        return s.toString();
    }

    private static void appendNodes(StringBuilder s, Foldback x) {
        int seen = 0;
        for (int n = 0; seen < x.nodes() && n < 2000; n++) {
            if (!exists(x, n)) {
                continue;
            }
            seen++;
            s.append(";#").append(n).append('<').append(x.parentOf(n)).append('>').append(x.newestChild(n));
            s.append('*').append(x.stepsOf(n)).append('"').append(replay(x, n)).append('"');
            for (int m = 0; m < 6; m++) {
                s.append(x.markByReplay(n, m)).append(' ');
            }
            for (int t = 0; t < 5; t++) {
                s.append(x.storedByReplay(n, t)).append(' ');
            }
        }
    }

    static boolean exists(Foldback x, int node) {
        try {
            x.parentOf(node);
            return true;
        } catch (IndexOutOfBoundsException e) {
            return false;
        }
    }

    static String chain(Foldback x) {
        StringBuilder s = new StringBuilder();
        for (int i = 0; i < 8; i++) {
            s.append(x.listenerChain(i)).append(' ');
        }
        return s.toString().trim();
    }

    /** That a call throws and that no query tells a difference. */
    static void refuses(String what, Class<?> due, Foldback x, Call call) {
        String was = all(x);
        fails(what, due, call);
        is(what + " changes nothing", all(x), was);
    }

    // ---- scripts of calls

    /** Makes calls written as "insert a, move -1, copy 0 2"; returns the last answer. */
    static int play(Foldback x, String script) {
        int answer = 0;
        for (String call : script.split(", *")) {
            String[] words = call.trim().split(" +");
            answer = playOne(x, words[0], number(words, 1), number(words, 2));
        }
        return answer;
    }

    /** A single sign stands for its character behind insert, overwrite and search, anything else for a number. */
    private static int number(String[] words, int i) {
        if (i >= words.length) {
            return 0;
        }
        boolean sign = words[i].length() == 1 && (words[0].equals("insert") || words[0].equals("overwrite") || words[0].equals("search"));
        return sign ? words[i].charAt(0) : words[i].equals("left") ? 0 : words[i].equals("right") ? 1 : Integer.parseInt(words[i]);
    }

    private static int playOne(Foldback x, String name, int a, int b) {
        switch (name) {
            case "insert": return x.insert(a);
            case "overwrite": return x.overwrite(a);
            case "delete": return x.delete(a);
            case "move": return x.move(a);
            case "search": return x.search(a);
            case "kill": return x.kill(a);
            case "yank": return x.yank();
            case "rotate": return x.rotate();
            case "copy": return x.copy(a, b);
            case "paste": return x.paste(a);
            case "setMark": return x.setMark(a, b == 1);
            case "clearMark": return x.clearMark(a);
            case "jump": return x.jump(a);
            case "narrow": return x.narrow(a);
            case "widen": return x.widen();
            case "run": return x.run(a, b);
            case "checkpoint": x.checkpoint(); return 0;
            case "undo": return x.undo();
            case "redo": return x.redo();
            case "walk": return x.walk(a);
            case "undoIn": return x.undoIn(a, b);
            case "open": x.open(); return 0;
            case "close": return x.close();
            case "pass": x.pass(a); return 0;
            case "track": x.track(a); return 0;
            case "setBookmark": return x.setBookmark(a);
            case "clearBookmark": return x.clearBookmark(a);
            case "setBudget": return x.setBudget(a);
            default: throw new AssertionError("no such call: " + name);
        }
    }

    /** Records a macro by making its calls. */
    static void macro(Foldback x, int macro, String script) {
        x.record(macro);
        play(x, script);
        x.stop();
    }
}
