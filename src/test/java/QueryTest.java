/** Promises 34 to 59: the queries. */
public final class QueryTest {
    public static void main(String[] args) {
        promise34Length();
        promise35CharAt();
        promise36Point();
        promise37Lines();
        promise38LineOf();
        promise39LineStart();
        promise40MarkAt();
        promise41ViewStart();
        promise42ViewEnd();
        promise43Now();
        promise44Nodes();
        promise45ParentOf();
        promise46NewestChild();
        promise47StepsOf();
        promise48BookmarkAt();
        promise49LengthByReplay();
        promise50CharByReplay();
        promise51MarkByReplay();
        promise52StoredByReplay();
        promise53Entries();
        promise54EntryLength();
        promise55EntryChar();
        promise56Commands();
        promise57FailureReason();
        promise58FailureCommand();
        promise59ListenerChain();
        Check.end("QueryTest");
    }

    private static void promise34Length() {
        Ed x = new Ed();
        Check.is("empty", x.length(), 0);
        Check.play(x, "insert a, insert b");
        Check.is("two", x.length(), 2);
        x.move(-2);
        Check.is("the whole text", x.length(), 2);
        x.delete(1);
        Check.is("one", x.length(), 1);
        x.undo();
        Check.is("two again", x.length(), 2);
        Check.is("the longest", Check.full().length(), 400);
    }

    private static void promise35CharAt() {
        Ed x = new Ed();
        Check.fails("in an empty text", Check.IOOBE, () -> x.charAt(0));
        Check.block(x, "a~\n");
        Check.is("first", x.charAt(0), 'a');
        Check.is("second", x.charAt(1), '~');
        Check.is("last", x.charAt(2), 10);
        for (int bad : new int[] {-1, 3, 400, Integer.MIN_VALUE, Integer.MAX_VALUE}) {
            Check.fails("charAt " + bad, Check.IOOBE, () -> x.charAt(bad));
        }
        Check.play(x, "setMark 0 left, narrow 0");
        Check.is("outside the view", x.charAt(0), 'a');
        Check.play(x, "widen, move -1, delete 1");
        Check.fails("what was deleted", Check.IOOBE, () -> x.charAt(2));
    }

    private static void promise36Point() {
        Ed x = new Ed();
        Check.is("at first", x.point(), 0);
        Check.play(x, "insert a, insert b, insert c");
        Check.is("behind what was inserted", x.point(), 3);
        x.move(-2);
        Check.is("moved", x.point(), 1);
        x.undo();
        Check.is("the root's point", x.point(), 0);
    }

    private static void promise37Lines() {
        Ed x = new Ed();
        Check.is("an empty text", x.lines(), 1);
        Check.type(x, "ab");
        Check.is("no line feed", x.lines(), 1);
        Check.type(x, "\n");
        Check.is("a line feed at the end", x.lines(), 2);
        Check.type(x, "\n\nc");
        Check.is("three line feeds", x.lines(), 4);
        x.undo();
        x.undo();
        Check.is("undone", x.lines(), 1);
    }

    private static void promise38LineOf() {
        Ed x = Check.withBlock("ab\n\nc\n");
        int[] lines = {0, 0, 0, 1, 2, 2, 3};
        for (int place = 0; place < lines.length; place++) {
            Check.is("lineOf " + place, x.lineOf(place), lines[place]);
        }
        for (int bad : new int[] {-1, 7, Integer.MIN_VALUE, Integer.MAX_VALUE}) {
            Check.fails("lineOf " + bad, Check.IOOBE, () -> x.lineOf(bad));
        }
        Check.is("in an empty text", new Ed().lineOf(0), 0);
        Check.fails("beyond an empty text", Check.IOOBE, () -> new Ed().lineOf(1));
    }

    private static void promise39LineStart() {
        Ed x = Check.withBlock("ab\n\nc\n");
        int[] starts = {0, 3, 4, 6};
        for (int line = 0; line < starts.length; line++) {
            Check.is("lineStart " + line, x.lineStart(line), starts[line]);
        }
        for (int bad : new int[] {-1, 4, Integer.MIN_VALUE, Integer.MAX_VALUE}) {
            Check.fails("lineStart " + bad, Check.IOOBE, () -> x.lineStart(bad));
        }
        Check.is("in an empty text", new Ed().lineStart(0), 0);
        Check.fails("beyond an empty text", Check.IOOBE, () -> new Ed().lineStart(1));
        Ed y = Check.withBlock("\n");
        Check.is("a line feed at the start", y.lineStart(1), 1);
    }

    private static void promise40MarkAt() {
        Ed x = Check.withBlock("abc");
        for (int i = 0; i < 6; i++) {
            Check.is("unset", x.markAt(i), Foldback.NONE);
        }
        x.setMark(0, true);
        x.move(-2);
        x.setMark(5, false);
        Check.is("mark 0", x.markAt(0), 3);
        Check.is("mark 5", x.markAt(5), 1);
        x.clearMark(0);
        Check.is("unset again", x.markAt(0), Foldback.NONE);
        for (int bad : new int[] {-1, 6, Integer.MIN_VALUE, Integer.MAX_VALUE}) {
            Check.fails("markAt " + bad, Check.IOOBE, () -> x.markAt(bad));
        }
    }

    private static Ed nested() {
        Ed x = Check.withBlock("0123456789");
        Check.play(x, "move -8, setMark 0 left, move 6, setMark 1 left, move -3, setMark 2 left, move 3, narrow 0, narrow 2");
        return x;
    }

    private static void promise41ViewStart() {
        Check.is("no view, no text", new Ed().viewStart(), 0);
        Check.is("no view", Check.typed("ab").viewStart(), 0);
        Ed x = nested();
        Check.is("the innermost", x.viewStart(), 5);
        x.widen();
        Check.is("the outer one", x.viewStart(), 2);
        x.widen();
        Check.is("the whole text", x.viewStart(), 0);
    }

    private static void promise42ViewEnd() {
        Check.is("no view, no text", new Ed().viewEnd(), 0);
        Check.is("no view", Check.typed("ab").viewEnd(), 2);
        Ed x = nested();
        Check.is("the innermost", x.viewEnd(), 8);
        x.insert('x');
        Check.is("it moves", x.viewEnd(), 9);
        x.widen();
        Check.is("the outer one moved too", x.viewEnd(), 9);
        x.widen();
        Check.is("the whole text", x.viewEnd(), 11);
    }

    private static void promise43Now() {
        Ed x = new Ed();
        Check.is("the root", x.now(), 0);
        Check.play(x, "insert a, insert -");
        Check.is("the newest", x.now(), 2);
        x.undo();
        Check.is("its parent", x.now(), 1);
        x.insert('b');
        Check.is("a new one", x.now(), 3);
        Check.play(x, "open, insert c");
        Check.is("not in a group", x.now(), 3);
    }

    private static void promise44Nodes() {
        Ed x = new Ed();
        Check.is("the root", x.nodes(), 1);
        Check.play(x, "insert a, insert -, undo, insert b");
        Check.is("also those that are not on the path", x.nodes(), 4);
        Check.play(x, "setMark 0 left, setBudget 4");
        Check.is("merged", x.nodes(), 4);
    }

    private interface OfNode {
        int ask(Ed x, int node);
    }

    /** That a query throws for nodes that there never were, that are not yet, and that were merged. */
    private static void needsNode(String what, OfNode query) {
        Ed x = Check.typed("a-b-");
        for (int bad : new int[] {-1, 5, 99, 600, Integer.MIN_VALUE, Integer.MAX_VALUE}) {
            Check.fails(what + " of " + bad, Check.IOOBE, () -> query.ask(x, bad));
        }
        query.ask(x, 1);
        query.ask(x, 4);
        x.setBudget(3);
        Check.fails(what + " of a merged node", Check.IOOBE, () -> query.ask(x, 1));
        Check.fails(what + " of a merged node", Check.IOOBE, () -> query.ask(x, 2));
        query.ask(x, 3);
        query.ask(x, 0);
    }

    private static void promise45ParentOf() {
        Ed x = Check.typed("a-b");
        Check.play(x, "undo, undo, insert c");
        Check.is("of the root", x.parentOf(0), Foldback.NONE);
        Check.is("of 1", x.parentOf(1), 0);
        Check.is("of 3", x.parentOf(3), 2);
        Check.is("of 4", x.parentOf(4), 1);
        needsNode("parentOf", (y, node) -> y.parentOf(node));
    }

    private static void promise46NewestChild() {
        Ed x = Check.typed("a-b");
        Check.is("of the root", x.newestChild(0), 1);
        Check.is("none", x.newestChild(3), Foldback.NONE);
        Check.play(x, "undo, undo, insert c");
        Check.is("the one with the greatest number", x.newestChild(1), 4);
        Check.play(x, "walk 2, insert d");
        Check.is("of another node", x.newestChild(2), 5);
        Check.is("no grandchild", x.newestChild(1), 4);
        needsNode("newestChild", (y, node) -> y.newestChild(node));
    }

    private static void promise47StepsOf() {
        Ed x = Check.typed("abc");
        Check.is("the root", x.stepsOf(0), 0);
        Check.is("typing", x.stepsOf(1), 1);
        Check.play(x, "open, insert a, setMark 0 left, track 4, move -1, kill 1, close");
        Check.is("a group", x.stepsOf(2), 5);
        Check.is("the other one", x.stepsOf(1), 1);
        needsNode("stepsOf", (y, node) -> y.stepsOf(node));
    }

    private static void promise48BookmarkAt() {
        Ed x = Check.typed("a-");
        for (int i = 0; i < 5; i++) {
            Check.is("not set", x.bookmarkAt(i), Foldback.NONE);
        }
        x.setBookmark(0);
        x.undo();
        x.setBookmark(4);
        Check.is("bookmark 0", x.bookmarkAt(0), 2);
        Check.is("bookmark 4", x.bookmarkAt(4), 1);
        x.clearBookmark(0);
        Check.is("not set", x.bookmarkAt(0), Foldback.NONE);
        for (int bad : new int[] {-1, 5, Integer.MIN_VALUE, Integer.MAX_VALUE}) {
            Check.fails("bookmarkAt " + bad, Check.IOOBE, () -> x.bookmarkAt(bad));
        }
    }

    private static void promise49LengthByReplay() {
        Ed x = Check.typed("ab-");
        Check.play(x, "move -1, delete 1, undo, undo");
        Check.is("the root", x.lengthByReplay(0), 0);
        Check.is("node 1", x.lengthByReplay(1), 2);
        Check.is("node 2", x.lengthByReplay(2), 3);
        Check.is("node 3", x.lengthByReplay(3), 2);
        Check.is("the current one is another", x.now(), 1);
        Check.play(x, "open, insert c");
        Check.is("steps of an open group are in no state", x.lengthByReplay(1), 2);
        needsNode("lengthByReplay", (y, node) -> y.lengthByReplay(node));
    }

    private static void promise50CharByReplay() {
        Ed x = Check.typed("ab");
        Check.play(x, "move -2, overwrite c, insert d, walk 0");
        Check.is("node 1", x.charByReplay(1, 0), 'a');
        Check.is("node 1", x.charByReplay(1, 1), 'b');
        Check.is("node 2", x.charByReplay(2, 0), 'c');
        Check.is("node 3", x.charByReplay(3, 1), 'd');
        Check.is("node 3", x.charByReplay(3, 2), 'b');
        Check.fails("an empty text", Check.IOOBE, () -> x.charByReplay(0, 0));
        for (int bad : new int[] {-1, 2, 400, Integer.MIN_VALUE, Integer.MAX_VALUE}) {
            Check.fails("index " + bad, Check.IOOBE, () -> x.charByReplay(1, bad));
        }
        needsNode("charByReplay", (y, node) -> node == 0 ? 0 : y.charByReplay(node, 0));
        x.walk(3);
        Check.play(x, "insert e");
        Check.is("a change that goes on elsewhere", Check.replay(x, 3), "cdb");
    }

    private static void promise51MarkByReplay() {
        Ed x = Check.typed("ab");
        Check.play(x, "setMark 3 right, move -2, insert c, clearMark 3, setMark 5 left, walk 0");
        Check.is("the root", x.markByReplay(0, 3), Foldback.NONE);
        Check.is("node 1", x.markByReplay(1, 3), Foldback.NONE);
        Check.is("node 2", x.markByReplay(2, 3), 2);
        Check.is("node 3", x.markByReplay(3, 3), 3);
        Check.is("node 4", x.markByReplay(4, 3), Foldback.NONE);
        Check.is("node 5", x.markByReplay(5, 5), 1);
        Check.is("another mark", x.markByReplay(5, 0), Foldback.NONE);
        for (int bad : new int[] {-1, 6, Integer.MIN_VALUE, Integer.MAX_VALUE}) {
            Check.fails("mark " + bad, Check.IOOBE, () -> x.markByReplay(2, bad));
            Check.fails("mark and node", Check.IOOBE, () -> x.markByReplay(99, bad));
        }
        needsNode("markByReplay", (y, node) -> y.markByReplay(node, 0));
    }

    private static void promise52StoredByReplay() {
        Ed x = Check.withBlock("abcdefghij");
        Check.play(x, "move -10, kill 1, copy 3 5");
        for (int store = 0; store < 5; store++) {
            Check.is("not tracked", x.storedByReplay(x.now(), store), 0);
        }
        Check.play(x, "track 4, track 3, kill 2, kill 3, copy 3 1");
        Check.is("ring", x.storedByReplay(3, 4), 1);
        Check.is("register", x.storedByReplay(4, 3), 5);
        Check.is("not yet", x.storedByReplay(3, 3), 0);
        Check.is("not before", x.storedByReplay(2, 4), 0);
        Check.is("ring", x.storedByReplay(5, 4), 3);
        Check.is("ring", x.storedByReplay(6, 4), 6);
        Check.is("register", x.storedByReplay(7, 3), 1);
        Check.is("another register", x.storedByReplay(7, 2), 0);
        x.walk(0);
        Check.is("from the root", x.storedByReplay(7, 4), 6);
        Check.is("the root", x.storedByReplay(0, 4), 0);
        for (int bad : new int[] {-1, 5, Integer.MIN_VALUE, Integer.MAX_VALUE}) {
            Check.fails("store " + bad, Check.IOOBE, () -> x.storedByReplay(2, bad));
            Check.fails("store and node", Check.IOOBE, () -> x.storedByReplay(99, bad));
        }
        needsNode("storedByReplay", (y, node) -> y.storedByReplay(node, 0));
    }

    private static Ed stored() {
        Ed x = Check.withBlock("abcdefghijklmnopqrstuvwxyz");
        Check.play(x, "move -26, copy 3 20, kill 1, kill 2, kill 20");
        return x;
    }

    private static void promise53Entries() {
        Ed x = stored();
        Check.is("an empty register", x.entries(0), 0);
        Check.is("a register", x.entries(3), 1);
        Check.is("the ring", x.entries(4), 3);
        Check.is("its number", x.entries(Foldback.RING), 3);
        Check.play(x, "kill 1, kill 1");
        Check.is("the ring is full", x.entries(4), 4);
        for (int bad : new int[] {-1, 5, Integer.MIN_VALUE, Integer.MAX_VALUE}) {
            Check.fails("entries " + bad, Check.IOOBE, () -> x.entries(bad));
        }
    }

    private static void promise54EntryLength() {
        Ed x = stored();
        Check.is("a register", x.entryLength(3, 0), 20);
        Check.is("the front", x.entryLength(4, 0), 20);
        Check.is("the second", x.entryLength(4, 1), 2);
        Check.is("the last", x.entryLength(4, 2), 1);
        int[][] bad = {{4, 3}, {4, -1}, {4, 4}, {3, 1}, {3, -1}, {0, 0}, {2, 1}, {-1, 0}, {5, 0}, {4, Integer.MAX_VALUE}, {Integer.MIN_VALUE, 0}};
        for (int[] b : bad) {
            Check.fails("entryLength " + b[0] + " " + b[1], Check.IOOBE, () -> x.entryLength(b[0], b[1]));
        }
    }

    private static void promise55EntryChar() {
        Ed x = stored();
        Check.is("a register", x.entryChar(3, 0, 0), 'a');
        Check.is("its last one", x.entryChar(3, 0, 19), 't');
        Check.is("the front", x.entryChar(4, 0, 0), 'd');
        Check.is("the second", x.entryChar(4, 1, 1), 'c');
        Check.is("the last", x.entryChar(4, 2, 0), 'a');
        int[][] bad = {{4, 2, 1}, {4, 2, -1}, {4, 3, 0}, {4, 1, 2}, {3, 0, 20}, {3, 0, -1}, {3, 1, 0}, {0, 0, 0}, {-1, 0, 0}, {5, 0, 0},
            {4, 0, Integer.MAX_VALUE}, {4, 0, Integer.MIN_VALUE}};
        for (int[] b : bad) {
            Check.fails("entryChar " + b[0] + " " + b[1] + " " + b[2], Check.IOOBE, () -> x.entryChar(b[0], b[1], b[2]));
        }
    }

    private static void promise56Commands() {
        Ed x = new Ed();
        for (int i = 0; i < 4; i++) {
            Check.is("empty", x.commands(i), 0);
        }
        Check.macro(x, 0, "insert a, move -1");
        Check.macro(x, 3, "move 0, move 0, move 0, move 0, move 0, move 0, move 0, move 0, move 0, move 0, move 0, move 0, "
                + "move 0, move 0, move 0, move 0");
        Check.is("macro 0", x.commands(0), 2);
        Check.is("macro 3", x.commands(3), 16);
        Check.is("macro 1", x.commands(1), 0);
        x.record(0);
        x.move(0);
        Check.is("while recording the old one", x.commands(0), 2);
        x.stop();
        Check.is("then the new one", x.commands(0), 1);
        for (int bad : new int[] {-1, 4, Integer.MIN_VALUE, Integer.MAX_VALUE}) {
            Check.fails("commands " + bad, Check.IOOBE, () -> x.commands(bad));
        }
    }

    private static void promise57FailureReason() {
        Ed x = Check.typed("ab");
        Check.is("no run", x.failureReason(), 0);
        x.move(-2);
        Check.macro(x, 2, "move 1, move 1");
        Check.is("a run that fails", x.run(2, 1), 0);
        Check.is("reason", x.failureReason(), Foldback.NOT_ENOUGH);
        Check.fails("a run that throws", Check.IAE, () -> x.run(2, 0));
        Check.fails("a run that throws", Check.IOOBE, () -> x.run(4, 1));
        Check.fails("another command", Check.ISE, () -> x.yank());
        Check.is("is left out of account", x.failureReason(), Foldback.NOT_ENOUGH);
        x.undo();
        Check.is("it stays", x.failureReason(), Foldback.NOT_ENOUGH);
        Check.play(x, "redo, move -2");
        Check.is("a run that does not fail", x.run(2, 1), 2);
        Check.is("reason", x.failureReason(), 0);
    }

    private static void promise58FailureCommand() {
        Ed x = Check.typed("ab");
        Check.is("no run", x.failureCommand(), Foldback.NONE);
        x.move(-2);
        Check.macro(x, 2, "move 1, move 1");
        Check.is("a run that fails", x.run(2, 1), 0);
        Check.is("command", x.failureCommand(), 200);
        x.move(-1);
        Check.is("a run that fails later", x.run(2, 1), 0);
        Check.is("command", x.failureCommand(), 201);
        Check.fails("a run that throws", Check.IAE, () -> x.run(2, 11));
        Check.is("is left out of account", x.failureCommand(), 201);
        Check.macro(x, 3, "checkpoint, run 2 1");
        Check.is("a run within a run that fails", x.run(3, 1), 1);
        Check.is("the command itself", x.failureCommand(), 201);
        x.move(-1);
        Check.is("a run that does not fail", x.run(3, 1), 4);
        Check.is("command", x.failureCommand(), Foldback.NONE);
    }

    private static void promise59ListenerChain() {
        Ed x = Check.typed("p");
        for (int bad : new int[] {-1, 8, Integer.MIN_VALUE, Integer.MAX_VALUE}) {
            Check.fails("listenerChain " + bad, Check.IOOBE, () -> x.listenerChain(bad));
        }
        Check.is("empty", Check.chain(x), "-1 -1 -1 -1 -1 -1 -1 -1");
        x.listen(2, 'p', 'q', 9);
        x.listen(0, 'q', 'p', 0);
        Check.fails("too deep", Check.ISE, () -> x.insert('-'));
        Check.is("chain", Check.chain(x), "2 0 2 0 2 0 2 0");
        Check.play(x, "undo");
        Check.fails("too deep", Check.ISE, () -> x.insert('q'));
        Check.is("the latest one", Check.chain(x), "0 2 0 2 0 2 0 2");
        x.unlisten(0);
        x.insert('p');
        Check.is("it stays when calls do not throw", Check.chain(x), "0 2 0 2 0 2 0 2");
        for (int bad : new int[] {-1, 8}) {
            Check.fails("listenerChain " + bad, Check.IOOBE, () -> x.listenerChain(bad));
        }
    }
}
