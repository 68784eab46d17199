import java.util.ArrayList;
import java.util.List;
import java.util.Random;

/** Many runs of calls, each answer and each query compared with the plain Model. */
public final class ModelTest {
    private static final int RUNS = Integer.getInteger("runs", 1500);
    // what is left of the 512 calls is for queries
    private static final int LEAST_CALLS = 60;
    private static final int MOST_CALLS = 480;

    public static void main(String[] args) {
        for (int seed = 1; seed <= RUNS; seed++) {
            new ModelTest(seed).go();
        }
        Check.end("ModelTest");
    }

    private final int seed;
    private final Random random;
    private final Ed x = new Ed();
    private final Model m = new Model();
    private final List<String> log = new ArrayList<>();
    private final int style;
    private int calls;
    private boolean same = true;

    private ModelTest(int seed) {
        this.seed = seed;
        this.random = new Random(seed);
        this.style = seed % 8;
    }

    private void go() {
        int most = LEAST_CALLS + random.nextInt(MOST_CALLS - LEAST_CALLS);
        if (style == 5) {
            fill();
        }
        for (int next = calls + 25; same && calls < most; ) {
            one();
            if (same && calls >= next) {
                next += 25;
                needs("the queries differ", sameQuickly());
            }
        }
        if (same) {
            needs("the queries differ at the end", sameQuickly() && sameWholly());
        }
        Check.is("seed " + seed, same, true);
    }

    private void needs(String what, boolean holds) {
        if (!holds) {
            same = false;
            System.out.println("seed " + seed + ", call " + calls + ": " + what);
            for (String s : log.subList(Math.max(0, log.size() - 40), log.size())) {
                System.out.println("  " + s);
            }
        }
    }

    /** A text of 380 characters. */
    private void fill() {
        both("open");
        for (int i = 0; i < 20; i++) {
            both("insert", 'a' + i);
        }
        both("move", -20);
        both("copy", 0, 20);
        for (int i = 0; i < 18; i++) {
            both("paste", 0);
        }
        both("close");
    }

    // ---- which call comes next

    private static final String[] NAMES = {
        "insert", "insert", "insert", "insert", "insert", "insert", "overwrite", "delete", "move", "move", "move", "search", "kill",
        "yank", "rotate", "copy", "paste", "setMark", "clearMark", "jump", "narrow", "widen", "run", "run", "checkpoint", "record",
        "stop", "open", "close", "pass", "track", "undo", "redo", "walk", "undoIn", "undoIn", "undoIn", "setBookmark",
        "clearBookmark", "setBudget", "listen", "unlisten"};

    private static final String[] TYPING = {"insert", "insert", "insert", "insert", "pass", "move", "undo", "redo", "setBudget", "stop"};
    private static final String[] REGION = {
        "insert", "insert", "delete", "kill", "yank", "overwrite", "move", "move", "undoIn", "undoIn", "undoIn", "undo", "redo",
        "open", "close", "walk", "setBudget", "rotate"};
    private static final String[] MACROS = {
        "run", "run", "run", "record", "stop", "stop", "checkpoint", "insert", "insert", "move", "move", "kill", "yank", "copy",
        "paste", "setMark", "clearMark", "jump", "narrow", "widen", "rotate", "search", "overwrite", "open", "close", "undoIn",
        "track", "listen"};
    private static final String[] TREE = {
        "insert", "insert", "insert", "pass", "undo", "undo", "redo", "walk", "walk", "setBookmark", "clearBookmark", "setBudget",
        "undoIn", "delete", "kill", "track", "setMark", "move"};

    private void one() {
        String[] names = style == 1 ? TYPING : style == 2 || style == 5 ? REGION : style == 3 || style == 7 ? MACROS : style == 4 ? TREE : NAMES;
        String name = names[random.nextInt(names.length)];
        if ((name.equals("setBudget") || name.equals("listen") || name.equals("track")) && random.nextInt(4) > 0) {
            name = "insert";
        }
        if (name.equals("open") && random.nextInt(2) > 0) {
            name = "close";
        }
        both(name, arguments(name));
        if (random.nextInt(6) == 0) {
            query();
        }
    }

    private int[] arguments(String name) {
        boolean odd = random.nextInt(40) == 0;
        return switch (name) {
            case "insert", "overwrite", "search" -> new int[] {odd ? random.nextInt(140) - 5 : sign()};
            case "delete", "kill" -> new int[] {odd ? random.nextInt(24) - 1 : 1 + random.nextInt(random.nextInt(4) == 0 ? 12 : 4)};
            case "move" -> new int[] {odd ? random.nextInt(120) - 60 : style == 3 ? random.nextInt(5) - 2 : distance()};
            case "copy" -> new int[] {number(4, odd), odd ? random.nextInt(24) - 1 : 1 + random.nextInt(6)};
            case "paste", "record" -> new int[] {number(4, odd)};
            case "setMark" -> new int[] {number(6, odd), random.nextInt(2)};
            case "clearMark", "jump", "narrow" -> new int[] {number(6, odd)};
            case "run" -> new int[] {number(4, odd), odd ? random.nextInt(14) - 1 : 1 + random.nextInt(3)};
            case "pass" -> new int[] {odd ? random.nextInt(200) - 50 : 1 + random.nextInt(4)};
            case "track", "setBookmark", "clearBookmark" -> new int[] {number(5, odd)};
            case "walk" -> new int[] {random.nextInt(m.it.next + 1) - (odd ? 1 : 0)};
            case "undoIn" -> region(odd);
            case "setBudget" -> new int[] {odd ? random.nextInt(610) : 2 + random.nextInt(style == 1 ? 3 : 60)};
            case "listen" -> new int[] {number(3, odd), sign(), sign(), odd ? random.nextInt(13) - 1 : random.nextInt(3)};
            case "unlisten" -> new int[] {number(3, odd)};
            default -> new int[0];
        };
    }

    private int number(int count, boolean odd) {
        return odd ? random.nextInt(count + 3) - 1 : random.nextInt(count);
    }

    private int distance() {
        return random.nextInt(3) == 0 ? random.nextInt(41) - 20 : random.nextInt(9) - 4;
    }

    private int sign() {
        String signs = style == 6 ? "abcd" : "abcxyzAZ09 .\n-@[`{/:";
        return signs.charAt(random.nextInt(signs.length()));
    }

    private int[] region(boolean odd) {
        int length = m.it.state.text.length();
        if (odd) {
            return new int[] {random.nextInt(length + 3) - 1, random.nextInt(length + 3) - 1};
        }
        int from = random.nextInt(length + 1);
        return new int[] {from, Math.min(length, from + random.nextInt(5))};
    }

    // ---- both programs

    private void both(String name, int... a) {
        if (!same) {
            return;
        }
        String due = dueOf(name, a);
        String got = x.told(name, a);
        calls++;
        log.add(name + java.util.Arrays.toString(a) + " due " + due + " got " + got);
        needs("the answers differ", due.equals(got));
    }

    private String dueOf(String name, int... a) {
        try {
            return String.valueOf(m.call(name, a));
        } catch (IllegalStateException | IllegalArgumentException | IndexOutOfBoundsException e) {
            return e.getClass().getSimpleName();
        }
    }

    /** A query between the calls, of the very object that they are made on. */
    private void query() {
        Model.All it = m.it;
        int number = random.nextInt(6);
        int index = it.state.text.length() == 0 ? 0 : random.nextInt(it.state.text.length());
        switch (random.nextInt(12)) {
            case 0 -> here(it.state.text.length(), "length");
            case 1 -> here(it.point, "point");
            case 2 -> here(m.low(), "viewStart");
            case 3 -> here(m.high(), "viewEnd");
            case 4 -> here(it.current, "now");
            case 5 -> here(it.nodes.size(), "nodes");
            case 6 -> here(it.state.marks[number], "markAt", number);
            case 7 -> here(m.replay(it.current).marks[number], "markByReplay", it.current, number);
            case 8 -> here(m.replay(it.current).text.length(), "lengthByReplay", it.current);
            case 9 -> here(it.nodes.get(it.current).steps.size(), "stepsOf", it.current);
            case 10 -> here(it.state.stores.get(4).size(), "entries", 4);
            default -> {
                if (it.state.text.length() > 0) {
                    here(it.state.text.charAt(index), "charAt", index);
                }
            }
        }
    }

    private void here(int due, String name, int... a) {
        int got = x.askHere(name, a);
        calls++;
        log.add(name + java.util.Arrays.toString(a) + " due " + due + " got " + got);
        needs("a query differs", due == got);
    }

    // ---- all queries

    private boolean sameQuickly() {
        Model.All it = m.it;
        boolean same = Check.text(x).equals(it.state.text.toString()) && x.point() == it.point && x.viewStart() == m.low()
                && x.viewEnd() == m.high() && x.now() == it.current && x.nodes() == it.nodes.size()
                && x.failureReason() == it.reason && x.failureCommand() == it.command;
        for (int i = 0; i < 6; i++) {
            same &= x.markAt(i) == it.state.marks[i];
        }
        for (int i = 0; i < 5; i++) {
            same &= Check.store(x, i).equals(String.join("|", it.state.stores.get(i))) && x.bookmarkAt(i) == it.bookmarks[i];
        }
        for (int i = 0; i < 4; i++) {
            same &= x.commands(i) == it.macros.get(i).size();
        }
        for (int i = 0; i < 8; i++) {
            same &= x.listenerChain(i) == m.chain[i];
        }
        return same && sameNode(it.current);
    }

    private boolean sameWholly() {
        boolean same = true;
        for (int n = 0; n < m.it.next + 2; n++) {
            same &= Check.exists(x, n) == m.it.nodes.containsKey(n);
            same &= !m.it.nodes.containsKey(n) || sameNode(n);
        }
        String text = m.it.state.text.toString();
        int line = 0;
        for (int p = 0; p <= text.length(); p++) {
            same &= x.lineOf(p) == line;
            if (p == 0 || text.charAt(p - 1) == '\n') {
                same &= x.lineStart(line) == p;
            }
            line += p < text.length() && text.charAt(p) == '\n' ? 1 : 0;
        }
        return same && x.lines() == line + 1;
    }

    private boolean sameNode(int n) {
        Model.State s = m.replay(n);
        List<Integer> children = m.children(n);
        boolean same = x.parentOf(n) == m.it.nodes.get(n).parent && x.stepsOf(n) == m.it.nodes.get(n).steps.size()
                && x.newestChild(n) == (children.isEmpty() ? -1 : children.get(children.size() - 1))
                && Check.replay(x, n).equals(s.text.toString());
        for (int i = 0; i < 6; i++) {
            same &= x.markByReplay(n, i) == s.marks[i];
        }
        for (int i = 0; i < 5; i++) {
            same &= x.storedByReplay(n, i) == String.join("", s.stores.get(i)).length();
        }
        return same;
    }
}
