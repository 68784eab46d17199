/** Promises 1 to 16: a new object, and the commands but for runs. */
public final class CommandTest {
    private static final int[] BAD_CHARACTERS = {9, 11, 31, 127, 0, -1, 128, Integer.MIN_VALUE, Integer.MAX_VALUE};
    private static final int[] BAD_COUNTS = {0, -1, 21, Integer.MIN_VALUE, Integer.MAX_VALUE};
    private static final int[] BAD_MARKS = {-1, 6, Integer.MIN_VALUE, Integer.MAX_VALUE};
    private static final int[] BAD_REGISTERS = {-1, 4, 5, Integer.MIN_VALUE, Integer.MAX_VALUE};

    public static void main(String[] args) {
        promise1NewObject();
        promise2Insert();
        promise2TypingGoesOn();
        promise2TypingEnds();
        promise2TypingAndOtherCalls();
        promise2TypingAndListenersAndMerges();
        promise3Overwrite();
        promise4Delete();
        promise5Move();
        promise6Search();
        promise7Kill();
        promise8Yank();
        promise9Rotate();
        promise10Copy();
        promise11Paste();
        promise12SetMark();
        marksMove();
        promise13ClearMark();
        promise14Jump();
        promise15Narrow();
        viewsMove();
        promise16Widen();
        listenersRefuseEachCommand();
        Check.end("CommandTest");
    }

    private static void promise1NewObject() {
        Ed x = new Ed();
        Check.is("text", Check.text(x), "");
        Check.is("length", x.length(), 0);
        Check.is("point", x.point(), 0);
        Check.is("lines", x.lines(), 1);
        Check.is("now", x.now(), 0);
        Check.is("nodes", x.nodes(), 1);
        Check.is("viewStart", x.viewStart(), 0);
        Check.is("viewEnd", x.viewEnd(), 0);
        Check.is("parentOf(0)", x.parentOf(0), Foldback.NONE);
        Check.is("newestChild(0)", x.newestChild(0), Foldback.NONE);
        Check.is("stepsOf(0)", x.stepsOf(0), 0);
        Check.is("failureReason", x.failureReason(), 0);
        Check.is("failureCommand", x.failureCommand(), Foldback.NONE);
        for (int i = 0; i < 6; i++) {
            Check.is("markAt", x.markAt(i), Foldback.NONE);
        }
        for (int i = 0; i < 5; i++) {
            Check.is("entries", x.entries(i), 0);
            Check.is("bookmarkAt", x.bookmarkAt(i), Foldback.NONE);
            x.track(i);
        }
        for (int i = 0; i < 4; i++) {
            Check.is("commands", x.commands(i), 0);
        }
        for (int i = 0; i < 8; i++) {
            Check.is("listenerChain", x.listenerChain(i), Foldback.NONE);
        }
        for (int i = 0; i < 3; i++) {
            Check.is("unlisten", x.unlisten(i), false);
        }
        x.open();
        x.record(0);
    }

    private static void promise2Insert() {
        Ed x = new Ed();
        Check.is("insert", x.insert('b'), 1);
        Check.is("insert", x.insert('d'), 2);
        x.move(-1);
        Check.is("insert in the middle", x.insert('c'), 3);
        Check.is("point is behind", x.point(), 2);
        x.move(-2);
        Check.is("insert at the start", x.insert('a'), 4);
        Check.is("point is behind", x.point(), 1);
        Check.is("text", Check.text(x), "abcd");
        for (int good : new int[] {10, 32, 126}) {
            x.insert(good);
            Check.is("the character", x.charAt(x.point() - 1), good);
        }
        for (int bad : BAD_CHARACTERS) {
            Check.refuses("insert " + bad, Check.IAE, x, () -> x.insert(bad));
        }
        Ed full = Check.full();
        Check.is("400 characters", full.length(), 400);
        Check.refuses("insert into a full text", Check.ISE, full, () -> full.insert('a'));
        Check.refuses("a bad character into a full text", Check.IAE, full, () -> full.insert(9));
        full.move(-1);
        full.delete(1);
        Check.is("the 400th character", full.insert('z'), 400);
    }

    private static void promise2TypingGoesOn() {
        Ed x = new Ed();
        x.insert('a');
        x.pass(3);
        x.insert('Z');
        x.pass(1);
        x.pass(2);
        x.insert('0');
        x.insert('9');
        x.insert('A');
        x.insert('z');
        Check.is("one change", x.now(), 1);
        Check.is("of one step", x.stepsOf(1), 1);
        Check.is("state", Check.replay(x, 1), "aZ09Az");
        x.move(-6);
        x.walk(1);
        Check.is("the point when it was last extended", x.point(), 6);
        Ed y = new Ed();
        for (char c : "@[`{/: \n~!".toCharArray()) {
            y.insert(c);
        }
        Check.is("signs that are no letters or digits", y.now(), 1);
        Check.is("one step", y.stepsOf(1), 1);
        // marks behave as if each character came alone
        Ed z = new Ed();
        z.setMark(0, true);
        z.setMark(1, false);
        z.insert('a');
        z.insert('b');
        Check.is("right mark", z.markByReplay(z.now(), 0), 2);
        Check.is("left mark", z.markByReplay(z.now(), 1), 0);
        Check.is("both in one change", z.nodes(), 4);
    }

    private static void promise2TypingEnds() {
        for (char c : "@[`{/: \n".toCharArray()) {
            Ed x = Check.typed("a");
            x.insert(c);
            Check.is("another kind of character", x.now(), 2);
            x.insert('b');
            Check.is("and back", x.now(), 3);
        }
        Ed x = Check.typed("a");
        x.pass(4);
        x.insert('b');
        Check.is("after 4 ticks", x.now(), 2);
        x.pass(2);
        x.insert('c');
        x.pass(2);
        x.insert('d');
        Check.is("ticks are counted from the last insert", x.now(), 2);
        x.pass(1);
        x.pass(3);
        x.insert('e');
        Check.is("ticks add up", x.now(), 3);
        for (int i = 0; i < 100; i++) {
            x.pass(100);
        }
        x.insert('f');
        Check.is("many ticks", x.now(), 4);
        x.pass(2);
        Check.fails("a pass that throws", Check.IAE, () -> x.pass(101));
        x.insert('g');
        Check.is("is left out of account", x.now(), 4);
    }

    private static Ed prepared() {
        Ed x = Check.typed("ab");
        x.setMark(0, true);
        x.move(-1);
        x.copy(0, 1);
        x.kill(1);
        x.insert('c');
        return x;
    }

    private static void breaks(String what, Ed x, Check.Call call) {
        call.make();
        int node = x.now();
        int nodes = x.nodes();
        int length = x.lengthByReplay(node);
        x.insert('d');
        Check.is(what + " ends typing", x.nodes(), nodes + 1);
        Check.is(what + " ends typing", x.parentOf(x.now()), node);
        Check.is(what + " ends typing", x.lengthByReplay(node), length);
    }

    private static void promise2TypingAndOtherCalls() {
        Ed[] x = new Ed[22];
        for (int i = 0; i < x.length; i++) {
            x[i] = prepared();
        }
        breaks("move", x[0], () -> x[0].move(0));
        breaks("yank", x[1], () -> x[1].yank());
        breaks("jump", x[2], () -> x[2].jump(0));
        breaks("copy", x[3], () -> {
            x[3].move(-1);
            x[3].copy(0, 1);
            x[3].move(1);
        });
        breaks("narrow", x[4], () -> x[4].narrow(0));
        breaks("checkpoint", x[5], () -> x[5].checkpoint());
        breaks("run", x[6], () -> x[6].run(0, 1));
        breaks("record", x[7], () -> x[7].record(0));
        x[8].record(0);
        x[8].insert('x');
        breaks("stop", x[8], () -> x[8].stop());
        breaks("open and close", x[9], () -> {
            x[9].open();
            x[9].close();
        });
        breaks("undo and redo", x[10], () -> {
            x[10].undo();
            x[10].redo();
        });
        breaks("walk", x[11], () -> x[11].walk(x[11].now()));
        breaks("setBookmark", x[12], () -> x[12].setBookmark(0));
        breaks("clearBookmark", x[13], () -> x[13].clearBookmark(0));
        breaks("setBudget", x[14], () -> x[14].setBudget(600));
        breaks("listen", x[15], () -> x[15].listen(0, '!', '?', 0));
        breaks("unlisten", x[16], () -> x[16].unlisten(0));
        breaks("setMark", x[17], () -> x[17].setMark(1, true));
        breaks("track", x[18], () -> x[18].track(2));
        breaks("undoIn", x[19], () -> x[19].undoIn(2, 2));
        breaks("pass", x[20], () -> x[20].pass(4));
        breaks("overwrite", x[21], () -> {
            x[21].move(-1);
            x[21].overwrite('o');
        });
        Ed behind = Check.withBlock("z");
        behind.move(-1);
        behind.insert('a');
        breaks("search", behind, () -> behind.search('z'));
        Ed y = prepared();
        int node = y.now();
        for (String query : new String[] {"length", "point", "lines", "viewStart", "viewEnd", "now", "nodes", "failureReason", "failureCommand"}) {
            y.askHere(query);
        }
        for (String query : new String[] {"charAt", "lineOf", "lineStart", "markAt", "parentOf", "newestChild", "stepsOf", "bookmarkAt",
            "lengthByReplay", "entries", "commands", "listenerChain"}) {
            y.askHere(query, 0);
        }
        y.askHere("charByReplay", node, 0);
        y.askHere("markByReplay", node, 0);
        y.askHere("storedByReplay", node, 0);
        y.askHere("entryLength", 4, 0);
        y.askHere("entryChar", 4, 0, 0);
        Check.fails("stop", Check.ISE, () -> y.stop());
        Check.fails("close", Check.ISE, () -> y.close());
        Check.fails("redo", Check.ISE, () -> y.redo());
        Check.fails("move", Check.ISE, () -> y.move(50));
        Check.fails("insert", Check.IAE, () -> y.insert(9));
        Check.fails("setBookmark", Check.IOOBE, () -> y.setBookmark(5));
        Check.fails("listen", Check.IAE, () -> y.listen(0, 'a', 'a', 0));
        Check.fails("walk", Check.IOOBE, () -> y.walk(99));
        Check.fails("undoIn", Check.IAE, () -> y.undoIn(0, 99));
        y.insert('d');
        Check.is("queries and calls that throw do not end typing", y.now(), node);
        Ed z = Check.typed("a");
        z.open();
        z.insert('b');
        z.insert('c');
        Check.is("in a group nothing is extended", z.stepsOf(1), 1);
        Check.is("two steps", z.stepsOf(z.close()), 2);
        z.insert('d');
        Check.is("no insert extends a group's change", z.now(), 3);
    }

    private static void promise2TypingAndListenersAndMerges() {
        Ed x = Check.typed("a");
        x.listen(0, 'q', 'r', 0);
        x.insert('b');
        x.insert('q');
        Check.is("notified of an extension", Check.text(x), "abr");
        Check.is("its replacement is one more step", x.stepsOf(2), 2);
        Check.is("in the same change", x.now(), 2);
        Check.is("state", Check.replay(x, 2), "abr");
        x.insert('c');
        Check.is("a change with a replacement is not extended", x.now(), 3);
        x.insert('d');
        Check.is("the next one is", x.now(), 3);
        x.insert(' ');
        x.insert('q');
        Check.is("replaced at once", x.stepsOf(5), 2);
        x.insert('q');
        Check.is("not extended", x.now(), 6);

        Ed y = Check.typed("a b");
        y.setBudget(2);
        Check.is("three nodes are merged to two", y.nodes(), 2);
        y.insert('-');
        Check.is("merged into the new one", y.stepsOf(4), 4);
        y.insert('-');
        Check.is("a change with another one merged into it is not extended", y.now(), 5);

        Ed w = Check.typed("z");
        Check.play(w, "setBookmark 0, move -1");
        w.listen(0, 'q', 'r', 0);
        Check.play(w, "insert a, insert q, setMark 0 left, setBudget 3");
        Check.is("a change that was extended and replaced in is merged", w.stepsOf(3), 3);
        w.undoIn(3, 3);
        Check.is("and its steps still move the traces of others", Check.text(w), "ar");

        Ed z = Check.typed("p");
        z.listen(0, 'x', 'y', 0);
        z.listen(1, 'y', 'x', 0);
        z.insert('q');
        Check.refuses("an extension that goes too deep", Check.ISE, z, () -> z.insert('x'));
        Check.is("chain", Check.chain(z), "0 1 0 1 0 1 0 1");
        z.insert('r');
        Check.is("typing goes on behind it", z.now(), 2);
        Check.is("state", Check.replay(z, 2), "pqr");
        Check.is("of one step", z.stepsOf(2), 1);
    }

    private static void promise3Overwrite() {
        Ed x = Check.withBlock("abc");
        Check.refuses("overwrite at the end", Check.ISE, x, () -> x.overwrite('z'));
        x.move(-3);
        Check.is("overwrite", x.overwrite('x'), 'a');
        Check.is("overwrite", x.overwrite('b'), 'b');
        Check.is("point", x.point(), 2);
        Check.is("text", Check.text(x), "xbc");
        Check.is("the same character is a change too", x.now(), 3);
        Check.is("of one step", x.stepsOf(3), 1);
        Check.is("length", x.length(), 3);
        for (int bad : BAD_CHARACTERS) {
            Check.refuses("overwrite with " + bad, Check.IAE, x, () -> x.overwrite(bad));
        }
        for (int good : new int[] {10, 32, 126}) {
            x.move(-1);
            x.overwrite(good);
            Check.is("the character", x.charAt(1), good);
        }
        x.setMark(0, true);
        x.move(-1);
        x.narrow(0);
        x.overwrite('y');
        Check.refuses("overwrite at the end of the view", Check.ISE, x, () -> x.overwrite('z'));
        Check.refuses("and a bad character", Check.IAE, x, () -> x.overwrite(9));
        Ed full = Check.full();
        full.move(-1);
        Check.is("in a full text", full.overwrite('!'), 't');
    }

    private static void promise4Delete() {
        Ed x = Check.withBlock("abcdefghijklmnopqrstuvwxyz");
        Check.refuses("delete at the end", Check.ISE, x, () -> x.delete(1));
        x.move(-26);
        Check.is("delete", x.delete(1), 25);
        Check.is("delete 20", x.delete(20), 5);
        Check.is("text", Check.text(x), "vwxyz");
        Check.is("point", x.point(), 0);
        Check.refuses("delete more than there is", Check.ISE, x, () -> x.delete(6));
        x.move(1);
        Check.refuses("delete more than lies behind", Check.ISE, x, () -> x.delete(5));
        for (int bad : BAD_COUNTS) {
            Check.refuses("delete " + bad, Check.IAE, x, () -> x.delete(bad));
        }
        x.move(2);
        x.setMark(0, false);
        x.move(-2);
        x.narrow(0);
        Check.refuses("delete beyond the view", Check.ISE, x, () -> x.delete(3));
        Check.is("delete in the view", x.delete(2), 3);
        Check.is("text", Check.text(x), "vyz");
        Check.is("each is a change of one step", x.stepsOf(x.now()), 1);
    }

    private static void promise5Move() {
        Ed x = Check.full();
        Check.is("move back", x.move(-50), 350);
        Check.is("move on", x.move(50), 400);
        Check.is("stay", x.move(0), 400);
        Check.refuses("beyond the end", Check.ISE, x, () -> x.move(1));
        for (int bad : new int[] {-51, 51, Integer.MIN_VALUE, Integer.MAX_VALUE}) {
            Check.refuses("move " + bad, Check.IAE, x, () -> x.move(bad));
        }
        Check.to(x, 0);
        Check.refuses("ahead of the start", Check.ISE, x, () -> x.move(-1));
        int nodes = x.nodes();
        x.move(10);
        x.setMark(0, true);
        x.move(10);
        x.narrow(0);
        Check.refuses("beyond the view", Check.ISE, x, () -> x.move(1));
        Check.is("to its start", x.move(-10), 10);
        Check.refuses("ahead of the view", Check.ISE, x, () -> x.move(-1));
        Check.is("to its end", x.move(10), 20);
        Check.is("a move makes no change", x.nodes(), nodes + 1);
    }

    private static void promise6Search() {
        Ed x = Check.withBlock("a.b.c\n~ ");
        Check.to(x, 0);
        Check.is("the first one", x.search('.'), 2);
        Check.is("the next one", x.search('.'), 4);
        Check.refuses("none behind", Check.ISE, x, () -> x.search('.'));
        x.move(-1);
        Check.is("the one right behind the point", x.search('.'), 4);
        Check.is("line feed", x.search(10), 6);
        Check.is("126", x.search(126), 7);
        Check.is("32, the last one", x.search(32), 8);
        Check.refuses("at the end", Check.ISE, x, () -> x.search(32));
        for (int bad : BAD_CHARACTERS) {
            Check.refuses("search " + bad, Check.IAE, x, () -> x.search(bad));
        }
        Check.is("no change", x.nodes(), 2);
        Check.to(x, 3);
        x.setMark(0, true);
        Check.to(x, 0);
        x.narrow(0);
        Check.is("in the view", x.search('b'), 3);
        x.move(-3);
        Check.refuses("beyond the view", Check.ISE, x, () -> x.search('c'));
        x.widen();
        Check.is("without the view", x.search('c'), 5);
    }

    private static void promise7Kill() {
        Ed x = Check.withBlock("abcdefghijklmnopqrstuvwxyz0123456789");
        Check.refuses("kill at the end", Check.ISE, x, () -> x.kill(1));
        Check.to(x, 0);
        Check.is("kill", x.kill(1), 1);
        Check.is("kill", x.kill(2), 2);
        Check.is("kill", x.kill(3), 3);
        Check.is("kill", x.kill(4), 4);
        Check.is("ring", Check.store(x, 4), "ghij|def|bc|a");
        Check.is("the fifth", x.kill(20), 4);
        Check.is("ring", Check.store(x, 4), "klmnopqrstuvwxyz0123|ghij|def|bc");
        Check.is("text", Check.text(x), "456789");
        Check.is("point", x.point(), 0);
        Check.is("a step", x.stepsOf(x.now()), 1);
        Check.refuses("kill more than there is", Check.ISE, x, () -> x.kill(7));
        for (int bad : BAD_COUNTS) {
            Check.refuses("kill " + bad, Check.IAE, x, () -> x.kill(bad));
        }
        x.track(4);
        x.kill(1);
        Check.is("two steps if the ring is tracked", x.stepsOf(x.now()), 2);
        Check.is("ring", Check.store(x, 4), "4|klmnopqrstuvwxyz0123|ghij|def");
        x.undo();
        Check.is("undone", Check.store(x, 4), "klmnopqrstuvwxyz0123|ghij|def|bc");
        Check.is("undone", Check.text(x), "456789");
        x.move(1);
        x.setMark(0, true);
        x.move(-1);
        x.narrow(0);
        Check.refuses("kill beyond the view", Check.ISE, x, () -> x.kill(2));
        x.kill(1);
    }

    private static void promise8Yank() {
        Ed x = Check.withBlock("abcd");
        Check.refuses("yank of nothing", Check.ISE, x, () -> x.yank());
        Check.to(x, 0);
        x.kill(1);
        x.kill(2);
        Check.is("yank", x.yank(), 3);
        Check.is("text", Check.text(x), "bcd");
        Check.is("point", x.point(), 2);
        Check.is("yank again", x.yank(), 5);
        Check.is("text", Check.text(x), "bcbcd");
        Check.is("ring", Check.store(x, 4), "bc|a");
        Check.is("one step", x.stepsOf(x.now()), 1);
        Ed full = Check.full();
        full.move(-2);
        full.kill(2);
        full.insert('a');
        Check.refuses("yank of too much", Check.ISE, full, () -> full.yank());
        full.undo();
        Check.is("yank up to 400", full.yank(), 400);
    }

    private static void promise9Rotate() {
        Ed x = Check.withBlock("abcdef");
        Check.refuses("rotate of nothing", Check.ISE, x, () -> x.rotate());
        Check.to(x, 0);
        x.kill(1);
        Check.refuses("rotate of one", Check.ISE, x, () -> x.rotate());
        x.kill(1);
        x.move(1);
        Check.is("rotate of two", x.rotate(), 2);
        x.move(-1);
        Check.is("ring", Check.store(x, 4), "a|b");
        x.kill(1);
        x.kill(1);
        int nodes = x.nodes();
        Check.is("rotate of four", x.rotate(), 4);
        Check.is("ring", Check.store(x, 4), "c|a|b|d");
        Check.is("no change, as it is not tracked", x.nodes(), nodes);
        x.track(4);
        Check.is("rotate", x.rotate(), 4);
        Check.is("ring", Check.store(x, 4), "a|b|d|c");
        Check.is("a change, as it is tracked", x.nodes(), nodes + 2);
        Check.is("of one step", x.stepsOf(x.now()), 1);
        x.undo();
        Check.is("undone", Check.store(x, 4), "c|a|b|d");
    }

    private static void promise10Copy() {
        Ed x = Check.withBlock("abcdefghijklmnopqrstuvwxyz");
        Check.refuses("copy at the end", Check.ISE, x, () -> x.copy(0, 1));
        Check.to(x, 1);
        Check.is("copy", x.copy(0, 3), 0);
        Check.is("register", Check.store(x, 0), "bcd");
        Check.is("copy", x.copy(0, 20), 3);
        Check.is("register", Check.store(x, 0), "bcdefghijklmnopqrstu");
        Check.is("copy", x.copy(3, 1), 0);
        Check.is("register", Check.store(x, 3), "b");
        Check.is("the others", x.entries(1) + x.entries(2) + x.entries(4), 0);
        Check.is("copy", x.copy(0, 1), 20);
        Check.is("point", x.point(), 1);
        Check.is("no change, as it is not tracked", x.nodes(), 2);
        for (int bad : BAD_REGISTERS) {
            Check.refuses("copy to " + bad, Check.IOOBE, x, () -> x.copy(bad, 1));
            Check.refuses("the register comes first", Check.IOOBE, x, () -> x.copy(bad, 0));
        }
        for (int bad : BAD_COUNTS) {
            Check.refuses("copy of " + bad, Check.IAE, x, () -> x.copy(0, bad));
        }
        x.track(0);
        x.copy(0, 2);
        Check.is("a change, as it is tracked", x.nodes(), 4);
        Check.is("of one step", x.stepsOf(3), 1);
        x.undo();
        Check.is("undone", Check.store(x, 0), "b");
        x.setMark(0, true);
        Check.to(x, 0);
        x.narrow(0);
        Check.refuses("copy beyond the view", Check.ISE, x, () -> x.copy(1, 2));
        Check.refuses("a bad count comes first", Check.IAE, x, () -> x.copy(1, 21));
        x.copy(1, 1);
    }

    private static void promise11Paste() {
        Ed x = Check.withBlock("abc");
        Check.refuses("paste of nothing", Check.ISE, x, () -> x.paste(0));
        Check.to(x, 0);
        x.copy(0, 2);
        x.copy(3, 1);
        x.move(1);
        Check.is("paste", x.paste(0), 5);
        Check.is("text", Check.text(x), "aabbc");
        Check.is("point", x.point(), 3);
        Check.is("paste", x.paste(3), 6);
        Check.is("text", Check.text(x), "aababc");
        Check.is("register", Check.store(x, 0), "ab");
        for (int bad : BAD_REGISTERS) {
            Check.refuses("paste of " + bad, Check.IOOBE, x, () -> x.paste(bad));
        }
        Ed full = Check.full();
        Check.refuses("paste of too much", Check.ISE, full, () -> full.paste(0));
        Check.refuses("paste of nothing into a full text", Check.ISE, full, () -> full.paste(1));
        full.move(-19);
        full.delete(19);
        Check.refuses("paste of one too much", Check.ISE, full, () -> full.paste(0));
        full.move(-1);
        full.delete(1);
        Check.is("paste up to 400", full.paste(0), 400);
    }

    private static void promise12SetMark() {
        Ed x = Check.withBlock("abc");
        Check.is("set", x.setMark(0, true), Foldback.NONE);
        Check.is("where it is", x.markAt(0), 3);
        x.move(-2);
        Check.is("set again", x.setMark(0, true), 3);
        Check.is("where it is", x.markAt(0), 1);
        int nodes = x.nodes();
        Check.is("set to where it is", x.setMark(0, true), 1);
        Check.is("is a step too", x.nodes(), nodes + 1);
        Check.is("a step", x.stepsOf(x.now()), 1);
        Check.is("the last mark", x.setMark(5, false), Foldback.NONE);
        for (int bad : BAD_MARKS) {
            Check.refuses("mark " + bad, Check.IOOBE, x, () -> x.setMark(bad, true));
        }
        x.setMark(0, false);
        x.insert('-');
        Check.is("the new gravity counts", x.markAt(0), 1);
        x.undo();
        x.undo();
        x.insert('-');
        Check.is("the old gravity comes back with its node", x.markAt(0), 2);
        Ed full = Check.full();
        full.record(0);
        for (int i = 0; i < 16; i++) {
            full.setMark(1, true);
        }
        Check.refuses("the recorded list is full", Check.ISE, full, () -> full.setMark(1, true));
        Check.refuses("the mark comes first", Check.IOOBE, full, () -> full.setMark(6, true));
    }

    private static Ed marked() {
        Ed x = Check.withBlock("0123456789");
        for (int i = 0; i < 6; i++) {
            Check.to(x, 3 + i / 2);
            x.setMark(i, i % 2 == 1);
        }
        return x;
    }

    private static String marks(Ed x) {
        StringBuilder s = new StringBuilder();
        for (int i = 0; i < 6; i++) {
            s.append(x.markAt(i)).append(' ');
        }
        return s.toString().trim();
    }

    /** The marks: 0 and 1 at 3, 2 and 3 at 4, 4 and 5 at 5; the even ones with left gravity. */
    private static void marksMove() {
        Ed x = marked();
        Check.is("marks", marks(x), "3 3 4 4 5 5");
        Check.to(x, 0);
        x.copy(0, 3);
        Check.to(x, 4);
        x.paste(0);
        Check.is("three characters at 4", marks(x), "3 3 4 7 8 8");
        Check.is("the same in the state", x.markByReplay(x.now(), 3), 7);
        x.undo();
        Check.to(x, 4);
        x.delete(1);
        Check.is("one deleted from 4 on", marks(x), "3 3 4 4 4 4");
        x.undo();
        Check.is("and back", marks(x), "3 3 4 4 5 5");
        Check.to(x, 3);
        x.delete(1);
        Check.is("one deleted from 3 on", marks(x), "3 3 3 3 4 4");
        x.undo();
        Check.to(x, 2);
        x.delete(2);
        Check.is("two deleted from 2 on", marks(x), "2 2 2 2 3 3");
        x.undo();
        Check.to(x, 0);
        x.delete(2);
        Check.is("two deleted ahead", marks(x), "1 1 2 2 3 3");
        x.undo();
        Check.to(x, 5);
        x.delete(2);
        Check.is("two deleted behind", marks(x), "3 3 4 4 5 5");
        x.undo();
        Check.to(x, 4);
        x.overwrite('x');
        Check.is("a replacement moves none", marks(x), "3 3 4 4 5 5");
        Check.to(x, 5);
        x.insert('y');
        Check.is("one inserted at 5", marks(x), "3 3 4 4 5 6");
    }

    private static void promise13ClearMark() {
        Ed x = Check.withBlock("abc");
        Check.refuses("unset", Check.ISE, x, () -> x.clearMark(0));
        x.setMark(0, true);
        int nodes = x.nodes();
        Check.is("clear", x.clearMark(0), 3);
        Check.is("unset then", x.markAt(0), Foldback.NONE);
        Check.is("a change", x.nodes(), nodes + 1);
        Check.is("of one step", x.stepsOf(x.now()), 1);
        Check.refuses("unset again", Check.ISE, x, () -> x.clearMark(0));
        for (int bad : BAD_MARKS) {
            Check.refuses("clear " + bad, Check.IOOBE, x, () -> x.clearMark(bad));
        }
        x.insert('d');
        Check.is("no step moves it", x.markAt(0), Foldback.NONE);
        x.undo();
        x.undo();
        Check.is("set again by undo", x.markAt(0), 3);
        x.setMark(5, false);
        Check.is("the last mark", x.clearMark(5), 3);
        // a mark need not be in the view to be cleared
        Check.to(x, 1);
        x.setMark(1, true);
        Check.to(x, 0);
        x.narrow(1);
        Check.is("outside the view", x.clearMark(0), 3);
    }

    private static void promise14Jump() {
        Ed x = Check.withBlock("abcdef");
        Check.refuses("to an unset mark", Check.ISE, x, () -> x.jump(0));
        x.move(-2);
        x.setMark(0, true);
        x.move(-4);
        x.setMark(5, true);
        int nodes = x.nodes();
        Check.is("jump", x.jump(0), 4);
        Check.is("point", x.point(), 4);
        Check.is("jump", x.jump(5), 0);
        Check.is("no change", x.nodes(), nodes);
        for (int bad : BAD_MARKS) {
            Check.refuses("jump to " + bad, Check.IOOBE, x, () -> x.jump(bad));
        }
        x.move(2);
        x.setMark(1, true);
        x.jump(0);
        x.narrow(1);
        Check.is("to the start of the view", x.jump(1), 2);
        Check.is("to its end", x.jump(0), 4);
        Check.refuses("ahead of the view", Check.ISE, x, () -> x.jump(5));
        x.widen();
        x.jump(5);
        x.narrow(1);
        Check.refuses("behind the view", Check.ISE, x, () -> x.jump(0));
    }

    private static void promise15Narrow() {
        Ed x = Check.withBlock("0123456789");
        Check.refuses("to an unset mark", Check.ISE, x, () -> x.narrow(0));
        Check.to(x, 2);
        x.setMark(0, true);
        Check.to(x, 8);
        x.setMark(1, true);
        int nodes = x.nodes();
        Check.is("the mark ahead", x.narrow(0), 1);
        Check.is("start", x.viewStart(), 2);
        Check.is("end", x.viewEnd(), 8);
        Check.is("point", x.point(), 8);
        x.move(-5);
        Check.is("the mark behind", x.narrow(1), 2);
        Check.is("start", x.viewStart(), 3);
        Check.is("end", x.viewEnd(), 8);
        Check.refuses("a mark outside the view", Check.ISE, x, () -> x.narrow(0));
        x.move(5);
        Check.is("an empty view", x.narrow(1), 3);
        Check.is("start", x.viewStart(), 8);
        Check.is("end", x.viewEnd(), 8);
        Check.is("again", x.narrow(1), 4);
        Check.refuses("the fifth", Check.ISE, x, () -> x.narrow(1));
        Check.refuses("the fifth, and no mark", Check.ISE, x, () -> x.narrow(2));
        Check.is("no change", x.nodes(), nodes);
        for (int bad : BAD_MARKS) {
            Check.refuses("narrow to " + bad, Check.IOOBE, x, () -> x.narrow(bad));
        }
        x.insert('x');
        Check.is("an empty view takes what is inserted", x.viewEnd(), 9);
        Check.is("start", x.viewStart(), 8);
    }

    private static void viewsMove() {
        Ed x = Check.withBlock("0123456789");
        Check.to(x, 3);
        x.setMark(0, false);
        Check.to(x, 6);
        x.narrow(0);
        x.insert('a');
        Check.is("the end moves like a mark with right gravity", x.viewEnd(), 7);
        x.move(-4);
        x.insert('b');
        Check.is("the start moves like one with left gravity", x.viewStart(), 3);
        Check.is("and the end", x.viewEnd(), 8);
        x.move(-1);
        x.delete(2);
        Check.is("start", x.viewStart(), 3);
        Check.is("end", x.viewEnd(), 6);
        // only an undo in a region inserts ahead of a view
        Ed z = Check.withBlock("0123456789");
        Check.play(z, "move -8, delete 2, move 2, setMark 0 left, move 2, narrow 0, narrow 0");
        z.undoIn(2, 2);
        Check.is("start moves", z.viewStart(), 6);
        Check.is("end moves", z.viewEnd(), 8);
        z.widen();
        Check.is("the outer start too", z.viewStart(), 6);
        Check.is("the outer end too", z.viewEnd(), 8);
        Check.play(z, "narrow 0, narrow 0, narrow 0, insert a, insert b, move -1, delete 1");
        // each of the four had two characters, two came in and one went
        for (int left = 3; left >= 0; left--) {
            Check.is("each of four views moves", z.viewEnd() - z.viewStart(), 3);
            Check.is("widen", z.widen(), left);
        }
        // an undo in a region works whatever the view is
        Ed y = Check.typed("ab");
        y.move(0);
        Check.type(y, "cdef");
        y.setMark(0, false);
        y.move(-3);
        y.narrow(0);
        Check.is("view", y.viewStart(), 3);
        y.undoIn(0, 1);
        Check.is("text", Check.text(y), "cdef");
        Check.is("start moved back", y.viewStart(), 1);
        Check.is("end moved back", y.viewEnd(), 4);
        Check.is("point moved back", y.point(), 1);
        Check.is("view is kept", y.widen(), 0);
    }

    private static void promise16Widen() {
        Ed x = Check.withBlock("0123456789");
        Check.refuses("no view", Check.ISE, x, () -> x.widen());
        x.setMark(0, true);
        x.move(-4);
        x.narrow(0);
        x.setMark(1, true);
        x.move(2);
        x.narrow(1);
        int nodes = x.nodes();
        Check.is("inner view", x.viewEnd() - x.viewStart(), 2);
        Check.is("widen", x.widen(), 1);
        Check.is("outer view", x.viewStart(), 6);
        Check.is("outer view", x.viewEnd(), 10);
        Check.is("widen", x.widen(), 0);
        Check.is("whole text", x.viewStart(), 0);
        Check.is("whole text", x.viewEnd(), 10);
        Check.is("point", x.point(), 8);
        Check.refuses("no view", Check.ISE, x, () -> x.widen());
        Check.is("no change", x.nodes(), nodes);
    }

    /** Each command that makes a change throws if listeners go too deep, and the others do not. */
    private static void listenersRefuseEachCommand() {
        Ed x = Check.withBlock("abp");
        x.setMark(0, true);
        x.move(-3);
        x.copy(0, 1);
        x.kill(1);
        x.track(1);
        x.track(4);
        x.setMark(1, true);
        Check.chase(x);
        Check.refuses("insert", Check.ISE, x, () -> x.insert('a'));
        Check.is("chain", Check.chain(x), "0 1 0 1 0 1 0 1");
        Check.refuses("overwrite", Check.ISE, x, () -> x.overwrite('a'));
        Check.refuses("delete", Check.ISE, x, () -> x.delete(1));
        Check.refuses("kill", Check.ISE, x, () -> x.kill(1));
        Check.refuses("yank", Check.ISE, x, () -> x.yank());
        Check.refuses("copy", Check.ISE, x, () -> x.copy(1, 1));
        Check.refuses("paste", Check.ISE, x, () -> x.paste(0));
        Check.refuses("setMark", Check.ISE, x, () -> x.setMark(2, true));
        Check.refuses("clearMark", Check.ISE, x, () -> x.clearMark(0));
        x.copy(0, 1);
        x.jump(0);
        x.narrow(1);
        x.widen();
        x.checkpoint();
        x.move(-2);
        Check.is("a kill that takes the cause away", x.search('p'), 2);
        x.move(-1);
        Check.is("is done", x.delete(1), 1);
    }
}
