import java.util.ArrayList;
import java.util.List;

/**
 * An editor as the tests use it: no object is used for more than the 512 calls of which the document tells what they
 * answer. Queries are put to a twin, a new object on which all calls so far are made once more; so they show too that
 * the same calls always give the same answers. A query that is to be put between two calls is asked by askHere().
 */
final class Ed {
    static final int CALLS = 512;

    record Call(String name, int... arguments) {
    }

    private final List<Call> past = new ArrayList<>();
    private final Foldback own = new Foldback();
    private Foldback twin;
    private int twinCalls;

    // ---- calls by name

    /** Makes any call; an answer that is a boolean counts 1 or 0, one that is nothing 0. */
    int call(String name, int... arguments) {
        Call call = new Call(name, arguments);
        return isQuery(name) ? ask(call) : act(call);
    }

    /** Puts a query to the very object that all other calls are made on. */
    int askHere(String name, int... arguments) {
        return act(new Call(name, arguments));
    }

    int callsLeft() {
        return CALLS - past.size();
    }

    /** What a call answers, in words. */
    String told(String name, int... arguments) {
        try {
            return String.valueOf(call(name, arguments));
        } catch (RuntimeException e) {
            return e.getClass().getSimpleName();
        }
    }

    private int act(Call call) {
        if (past.size() == CALLS) {
            throw new AssertionError("more than 512 calls");
        }
        past.add(call);
        twin = null;
        return on(own, call);
    }

    private int ask(Call query) {
        if (twin == null || twinCalls == CALLS) {
            twin = again(past.size());
            twinCalls = past.size();
        }
        if (twinCalls == CALLS) {
            throw new AssertionError("no call is left for a query");
        }
        twinCalls++;
        return on(twin, query);
    }

    private Foldback again(int calls) {
        Foldback other = new Foldback();
        for (int i = 0; i < calls; i++) {
            answer(other, past.get(i));
        }
        return other;
    }

    static boolean isQuery(String name) {
        return switch (name) {
            case "length", "charAt", "point", "lines", "lineOf", "lineStart", "markAt", "viewStart", "viewEnd", "now", "nodes",
                "parentOf", "newestChild", "stepsOf", "bookmarkAt", "lengthByReplay", "charByReplay", "markByReplay",
                "storedByReplay", "entries", "entryLength", "entryChar", "commands", "failureReason", "failureCommand",
                "listenerChain" -> true;
            default -> false;
        };
    }

    /** What a call answers, in words: a number, or the name of the exception. */
    static String answer(Foldback x, Call call) {
        try {
            return String.valueOf(on(x, call));
        } catch (RuntimeException e) {
            return e.getClass().getSimpleName();
        }
    }

    static int on(Foldback x, Call call) {
        int[] a = call.arguments();
        switch (call.name()) {
            case "insert": return x.insert(a[0]);
            case "overwrite": return x.overwrite(a[0]);
            case "delete": return x.delete(a[0]);
            case "move": return x.move(a[0]);
            case "search": return x.search(a[0]);
            case "kill": return x.kill(a[0]);
            case "yank": return x.yank();
            case "rotate": return x.rotate();
            case "copy": return x.copy(a[0], a[1]);
            case "paste": return x.paste(a[0]);
            case "setMark": return x.setMark(a[0], a[1] == 1);
            case "clearMark": return x.clearMark(a[0]);
            case "jump": return x.jump(a[0]);
            case "narrow": return x.narrow(a[0]);
            case "widen": return x.widen();
            case "run": return x.run(a[0], a[1]);
            case "checkpoint": x.checkpoint(); return 0;
            case "record": x.record(a[0]); return 0;
            case "stop": return x.stop();
            case "open": x.open(); return 0;
            case "close": return x.close();
            case "pass": x.pass(a[0]); return 0;
            case "track": x.track(a[0]); return 0;
            case "undo": return x.undo();
            case "redo": return x.redo();
            case "walk": return x.walk(a[0]);
            case "undoIn": return x.undoIn(a[0], a[1]);
            case "setBookmark": return x.setBookmark(a[0]);
            case "clearBookmark": return x.clearBookmark(a[0]);
            case "setBudget": return x.setBudget(a[0]);
            case "listen": x.listen(a[0], a[1], a[2], a[3]); return 0;
            case "unlisten": return x.unlisten(a[0]) ? 1 : 0;
            default: return onQuery(x, call.name(), a);
        }
    }

    private static int onQuery(Foldback x, String name, int[] a) {
        switch (name) {
            case "length": return x.length();
            case "charAt": return x.charAt(a[0]);
            case "point": return x.point();
            case "lines": return x.lines();
            case "lineOf": return x.lineOf(a[0]);
            case "lineStart": return x.lineStart(a[0]);
            case "markAt": return x.markAt(a[0]);
            case "viewStart": return x.viewStart();
            case "viewEnd": return x.viewEnd();
            case "now": return x.now();
            case "nodes": return x.nodes();
            case "parentOf": return x.parentOf(a[0]);
            case "newestChild": return x.newestChild(a[0]);
            case "stepsOf": return x.stepsOf(a[0]);
            case "bookmarkAt": return x.bookmarkAt(a[0]);
            case "lengthByReplay": return x.lengthByReplay(a[0]);
            case "charByReplay": return x.charByReplay(a[0], a[1]);
            case "markByReplay": return x.markByReplay(a[0], a[1]);
            case "storedByReplay": return x.storedByReplay(a[0], a[1]);
            case "entries": return x.entries(a[0]);
            case "entryLength": return x.entryLength(a[0], a[1]);
            case "entryChar": return x.entryChar(a[0], a[1], a[2]);
            case "commands": return x.commands(a[0]);
            case "failureReason": return x.failureReason();
            case "failureCommand": return x.failureCommand();
            case "listenerChain": return x.listenerChain(a[0]);
            default: throw new AssertionError("no such call: " + name);
        }
    }

    // ---- what no query tells

    /**
     * That the latest call, which threw, has changed nothing that later calls tell of: what they answer is what they
     * answer on an object that the call was not made on. Returns where they differ, an empty text if they do not.
     */
    String traceOfLatestCall() {
        for (int future = 0; future < Future.COUNT; future++) {
            String with = Future.tell(again(past.size()), future, CALLS - past.size());
            String without = Future.tell(again(past.size() - 1), future, CALLS - past.size());
            if (!with.equals(without)) {
                return "future " + future + ":\n  with    " + with + "\n  without " + without;
            }
        }
        return "";
    }

    // ---- the calls by their own names, for tests that are not scripts

    int insert(int character) {
        return call("insert", character);
    }

    int overwrite(int character) {
        return call("overwrite", character);
    }

    int delete(int count) {
        return call("delete", count);
    }

    int move(int distance) {
        return call("move", distance);
    }

    int search(int character) {
        return call("search", character);
    }

    int kill(int count) {
        return call("kill", count);
    }

    int yank() {
        return call("yank");
    }

    int rotate() {
        return call("rotate");
    }

    int copy(int register, int count) {
        return call("copy", register, count);
    }

    int paste(int register) {
        return call("paste", register);
    }

    int setMark(int mark, boolean right) {
        return call("setMark", mark, right ? 1 : 0);
    }

    int clearMark(int mark) {
        return call("clearMark", mark);
    }

    int jump(int mark) {
        return call("jump", mark);
    }

    int narrow(int mark) {
        return call("narrow", mark);
    }

    int widen() {
        return call("widen");
    }

    int run(int macro, int times) {
        return call("run", macro, times);
    }

    void checkpoint() {
        call("checkpoint");
    }

    void record(int macro) {
        call("record", macro);
    }

    int stop() {
        return call("stop");
    }

    void open() {
        call("open");
    }

    int close() {
        return call("close");
    }

    void pass(int ticks) {
        call("pass", ticks);
    }

    void track(int store) {
        call("track", store);
    }

    int undo() {
        return call("undo");
    }

    int redo() {
        return call("redo");
    }

    int walk(int node) {
        return call("walk", node);
    }

    int undoIn(int from, int to) {
        return call("undoIn", from, to);
    }

    int setBookmark(int bookmark) {
        return call("setBookmark", bookmark);
    }

    int clearBookmark(int bookmark) {
        return call("clearBookmark", bookmark);
    }

    int setBudget(int nodes) {
        return call("setBudget", nodes);
    }

    void listen(int listener, int from, int to, int rank) {
        call("listen", listener, from, to, rank);
    }

    boolean unlisten(int listener) {
        return call("unlisten", listener) == 1;
    }

    int length() {
        return call("length");
    }

    int charAt(int index) {
        return call("charAt", index);
    }

    int point() {
        return call("point");
    }

    int lines() {
        return call("lines");
    }

    int lineOf(int place) {
        return call("lineOf", place);
    }

    int lineStart(int line) {
        return call("lineStart", line);
    }

    int markAt(int mark) {
        return call("markAt", mark);
    }

    int viewStart() {
        return call("viewStart");
    }

    int viewEnd() {
        return call("viewEnd");
    }

    int now() {
        return call("now");
    }

    int nodes() {
        return call("nodes");
    }

    int parentOf(int node) {
        return call("parentOf", node);
    }

    int newestChild(int node) {
        return call("newestChild", node);
    }

    int stepsOf(int node) {
        return call("stepsOf", node);
    }

    int bookmarkAt(int bookmark) {
        return call("bookmarkAt", bookmark);
    }

    int lengthByReplay(int node) {
        return call("lengthByReplay", node);
    }

    int charByReplay(int node, int index) {
        return call("charByReplay", node, index);
    }

    int markByReplay(int node, int mark) {
        return call("markByReplay", node, mark);
    }

    int storedByReplay(int node, int store) {
        return call("storedByReplay", node, store);
    }

    int entries(int store) {
        return call("entries", store);
    }

    int entryLength(int store, int entry) {
        return call("entryLength", store, entry);
    }

    int entryChar(int store, int entry, int index) {
        return call("entryChar", store, entry, index);
    }

    int commands(int macro) {
        return call("commands", macro);
    }

    int failureReason() {
        return call("failureReason");
    }

    int failureCommand() {
        return call("failureCommand");
    }

    int listenerChain(int element) {
        return call("listenerChain", element);
    }
}
