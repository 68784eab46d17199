/** Promises 17 to 24: runs, recording, groups, time and tracked stores. */
public final class RunTest {
    private static final int[] BAD_MACROS = {-1, 4, 5, Integer.MIN_VALUE, Integer.MAX_VALUE};

    public static void main(String[] args) {
        promise17Run();
        promise17Arguments();
        promise17FailureWithoutCheckpoint();
        promise17FailureWithCheckpoint();
        promise17ViewsAtCheckpoint();
        promise17NotEnoughAndNotFound();
        promise17NoMark();
        promise17NoEntry();
        promise17TooLong();
        promise17Views();
        promise17Nested();
        promise17TooDeep();
        promise17TooMany();
        promise17TooManyAndTooDeep();
        promise17Stores();
        promise17Listeners();
        promise17RefusedByListeners();
        promise17InGroup();
        promise18Checkpoint();
        promise19Record();
        promise19FullList();
        promise20Stop();
        promise21Open();
        promise22Close();
        promise22CloseAndListeners();
        promise23Pass();
        promise24Track();
        promise24TrackInGroup();
        promise24TrackAndListeners();
        trackedStoresAndWalks();
        Check.end("RunTest");
    }

    /** An editor with a text in node 1, its point at the start, and a macro 0 that has been recorded on it. */
    private static Ed recorded(String text, String script) {
        Ed x = new Ed();
        if (!text.isEmpty()) {
            Check.block(x, text);
            Check.to(x, 0);
        }
        Check.macro(x, 0, script);
        return x;
    }

    private static void promise17Run() {
        Ed x = recorded("", "insert a, insert b, move -1");
        int nodes = x.nodes();
        Check.is("run", x.run(0, 2), 6);
        Check.is("text", Check.text(x), "aaabbb");
        Check.is("point", x.point(), 3);
        Check.is("one change", x.nodes(), nodes + 1);
        Check.is("a step for each insertion", x.stepsOf(x.now()), 4);
        Check.is("reason", x.failureReason(), 0);
        Check.is("command", x.failureCommand(), Foldback.NONE);
        x.undo();
        Check.is("undone as one", Check.text(x), "ab");
        Ed w = recorded("", "insert a, insert b, move -1");
        w.run(0, 2);
        w.undoIn(3, 3);
        Check.is("undone in a region", Check.text(w), "ab");
        Check.is("an empty macro", x.run(3, 10), 0);
        Check.is("makes no change", x.nodes(), nodes + 1);
        for (int bad : BAD_MACROS) {
            Check.refuses("run of " + bad, Check.IOOBE, x, () -> x.run(bad, 1));
            Check.refuses("the macro comes first", Check.IOOBE, x, () -> x.run(bad, 0));
        }
        for (int bad : new int[] {0, -1, 11, Integer.MIN_VALUE, Integer.MAX_VALUE}) {
            Check.refuses("run " + bad + " times", Check.IAE, x, () -> x.run(0, bad));
        }
        Ed y = recorded("abcdefghijkl", "move 1");
        Check.is("10 times", y.run(0, 10), 10);
        Check.is("point", y.point(), 11);
        Check.is("no steps, no change", y.nodes(), 2);
    }

    private static void promise17Arguments() {
        Ed x = recorded("xyz", "copy 2 2, setMark 4 right, paste 2, overwrite !, search z, jump 4, setMark 5 left");
        Check.is("recorded", Check.text(x), "xy!yz");
        x.walk(1);
        x.move(-3);
        Check.is("with the same arguments", x.run(0, 1), 7);
        Check.is("text", Check.text(x), "xy!yz");
        Check.is("register", Check.store(x, 2), "xy");
        Check.is("point", x.point(), 2);
        Check.is("steps", x.stepsOf(x.now()), 4);
        x.insert('-');
        Check.is("right gravity", x.markAt(4), 3);
        Check.is("left gravity", x.markAt(5), 2);
        Ed y = recorded("abcd", "kill 1, kill 2, rotate, yank");
        y.walk(1);
        y.move(-4);
        Check.is("kill, rotate and yank", y.run(0, 1), 4);
        // the ring was a|bc and is not tracked
        Check.is("ring", Check.store(y, 4), "a|a|bc|bc");
        Check.is("text", Check.text(y), "ad");
    }

    private static void promise17FailureWithoutCheckpoint() {
        Ed x = recorded("abcdef", "delete 1, insert x, insert y, move 2, setMark 0 left");
        Check.play(x, "setMark 1 right, move -4, narrow 1");
        String was = Check.all(x);
        Check.is("a run that fails at the second time", x.run(0, 2), 0);
        Check.is("reason", x.failureReason(), Foldback.NOT_ENOUGH);
        Check.is("command", x.failureCommand(), 3);
        x.run(3, 1);
        Check.is("an empty run takes the reason away", x.failureReason(), 0);
        Check.is("and the command", x.failureCommand(), Foldback.NONE);
        Check.is("all is as before", Check.all(x), was);
        Check.is("the view too", x.widen(), 0);
        Check.is("without the view it does not fail", x.run(0, 1), 5);
    }

    private static void promise17FailureWithCheckpoint() {
        Ed x = recorded("z", "insert a, checkpoint, insert b, setMark 1 right, move -2, narrow 1, widen, search z");
        x.walk(0);
        int nodes = x.nodes();
        Check.is("the number at the checkpoint", x.run(0, 1), 2);
        Check.is("reason", x.failureReason(), Foldback.NOT_FOUND);
        Check.is("command", x.failureCommand(), 7);
        Check.is("text", Check.text(x), "a");
        Check.is("mark", x.markAt(1), Foldback.NONE);
        Check.is("point", x.point(), 1);
        Check.is("a change of the steps till then", x.nodes(), nodes + 1);
        Check.is("steps", x.stepsOf(x.now()), 1);
        Check.is("replay", Check.replay(x, x.now()), "a");
        Check.is("mark by replay", x.markByReplay(x.now(), 1), Foldback.NONE);
        Ed y = recorded("z", "move 0, checkpoint, insert b, search z");
        y.walk(0);
        nodes = y.nodes();
        Check.is("a checkpoint without steps", y.run(0, 1), 2);
        Check.is("text", Check.text(y), "");
        Check.is("makes no change", y.nodes(), nodes);
    }

    private static void promise17ViewsAtCheckpoint() {
        Ed x = recorded("abz", "setMark 0 left, move 1, narrow 0, checkpoint, widen, delete 1, search z");
        x.walk(1);
        Check.play(x, "move -1, delete 1, move -2");
        int nodes = x.nodes();
        Check.is("run", x.run(0, 1), 4);
        Check.is("reason", x.failureReason(), Foldback.NOT_FOUND);
        Check.is("command", x.failureCommand(), 6);
        Check.is("text", Check.text(x), "ab");
        Ed y = Check.withBlock("abcdef");
        Check.play(y, "move -3, setMark 0 left, move -2, setMark 1 left, move 4, narrow 0");
        Check.macro(y, 0, "widen, move -1, narrow 1, move -3");
        Check.play(y, "widen, move 4, narrow 0, move -1");
        Check.is("another view in the place of the one that was there", y.run(0, 1), 0);
        Check.is("command", y.failureCommand(), 3);
        Check.is("start", y.viewStart(), 3);
        Check.is("end", y.viewEnd(), 5);
        Check.is("point", y.point(), 4);
        Check.is("view", x.viewStart(), 0);
        Check.is("view", x.viewEnd(), 1);
        Check.is("point", x.point(), 1);
        Check.is("mark", x.markAt(0), 0);
        Check.is("one change", x.nodes(), nodes + 1);
        Check.is("of the mark", x.stepsOf(x.now()), 1);
        x.move(-1);
        x.walk(x.now());
        Check.is("the node's point", x.point(), 1);
        Check.is("no view", x.viewEnd(), 2);
    }

    /** That a macro fails, has no checkpoint, and changes nothing. */
    private static void failing(String what, int reason, int command, Ed x) {
        String was = Check.text(x);
        int node = x.now();
        Check.is(what, x.run(command / 100, 1), 0);
        Check.is(what + ": reason", x.failureReason(), reason);
        Check.is(what + ": command", x.failureCommand(), command);
        Check.is(what + ": text", Check.text(x), was);
        Check.is(what + ": node", x.now(), node);
    }

    private static void promise17NotEnoughAndNotFound() {
        for (String command : new String[] {"overwrite c", "delete 1", "move 1", "kill 1", "copy 0 1"}) {
            Ed x = recorded("aabb", command);
            x.walk(0);
            failing(command, Foldback.NOT_ENOUGH, 0, x);
        }
        Ed back = recorded("aabb", "move 3, move -3");
        back.walk(1);
        Check.play(back, "move -4, setMark 0 right, move 3, narrow 0, move -3");
        Check.is("moves in the view", back.run(0, 1), 2);
        Check.play(back, "widen, move 1, setMark 0 right, move 2, narrow 0, move -2");
        failing("move beyond the view", Foldback.NOT_ENOUGH, 0, back);
        Ed x = recorded("aabb", "move 0, search b");
        x.walk(0);
        failing("search", Foldback.NOT_FOUND, 1, x);
    }

    private static void promise17NoMark() {
        for (String command : new String[] {"clearMark 0", "jump 0", "narrow 0"}) {
            Ed x = Check.withBlock("ab");
            x.setMark(0, true);
            Check.macro(x, 0, "move 0, " + command);
            x.walk(0);
            failing(command, Foldback.NO_MARK, 1, x);
        }
        for (String command : new String[] {"jump 0", "narrow 0"}) {
            Ed x = Check.withBlock("abcd");
            x.setMark(0, true);
            Check.macro(x, 1, command);
            x.walk(x.now());
            Check.play(x, "move -4, setMark 1 left, move 2, narrow 1");
            failing(command + " out of the view", Foldback.NO_MARK, 100, x);
        }
    }

    private static void promise17NoEntry() {
        Ed x = Check.withBlock("abcdef");
        Check.to(x, 0);
        Check.play(x, "kill 1, kill 1, copy 1 1, track 1, track 4");
        Check.macro(x, 0, "yank");
        Check.macro(x, 1, "rotate");
        Check.macro(x, 2, "paste 1");
        x.walk(1);
        failing("yank", Foldback.NO_ENTRY, 0, x);
        failing("rotate", Foldback.NO_ENTRY, 100, x);
        failing("paste", Foldback.NO_ENTRY, 200, x);
        x.open();
        while (x.length() < 400) {
            x.insert('-');
        }
        x.close();
        failing("yank into a full text", Foldback.NO_ENTRY, 0, x);
        failing("paste into a full text", Foldback.NO_ENTRY, 200, x);
        Check.play(x, "move -1, kill 1");
        failing("rotate of one", Foldback.NO_ENTRY, 100, x);
    }

    private static void promise17TooLong() {
        Ed x = Check.full();
        Check.play(x, "move -1, kill 1");
        Check.macro(x, 0, "insert a");
        failing("insert", Foldback.TOO_LONG, 0, x);
        Check.play(x, "move -1, delete 1");
        Check.macro(x, 1, "yank");
        failing("yank", Foldback.TOO_LONG, 100, x);
        Check.play(x, "move -20, delete 20");
        Check.macro(x, 2, "paste 0");
        failing("paste", Foldback.TOO_LONG, 200, x);
        Check.is("length", x.length(), 400);
    }

    private static void promise17Views() {
        Ed x = Check.withBlock("ab");
        x.setMark(0, true);
        Check.macro(x, 0, "narrow 0");
        Check.play(x, "narrow 0, narrow 0, narrow 0");
        failing("four views", Foldback.VIEWS, 0, x);
        x.clearMark(0);
        failing("four views and no mark", Foldback.NO_MARK, 0, x);
        Check.macro(x, 1, "widen");
        Check.play(x, "widen, widen, widen");
        failing("no view", Foldback.VIEWS, 100, x);
    }

    private static void promise17Nested() {
        Ed x = recorded("", "insert a");
        Check.macro(x, 1, "run 0 2, insert b");
        Check.macro(x, 2, "run 1 1, run 3 5, checkpoint");
        x.walk(0);
        int nodes = x.nodes();
        Check.is("runs, checkpoints and empty runs are counted", x.run(2, 2), 14);
        Check.is("text", Check.text(x), "aabaab");
        Check.is("one change", x.nodes(), nodes + 1);
        Check.is("steps", x.stepsOf(x.now()), 6);
        Ed y = recorded("z", "insert c, checkpoint, insert d, search z");
        Check.macro(y, 1, "insert e, run 0 1, insert f");
        y.walk(0);
        Check.is("a checkpoint at level 2", y.run(1, 1), 4);
        Check.is("reason", y.failureReason(), Foldback.NOT_FOUND);
        Check.is("the inner macro's command", y.failureCommand(), 3);
        Check.is("nothing more is executed", Check.text(y), "ec");
    }

    private static void promise17TooDeep() {
        Ed x = recorded("", "insert a, run 0 1");
        x.walk(0);
        Check.is("a macro that runs itself", x.run(0, 1), 0);
        Check.is("reason", x.failureReason(), Foldback.TOO_DEEP);
        Check.is("command", x.failureCommand(), 1);
        Check.is("text", Check.text(x), "");
        Check.macro(x, 0, "insert b, checkpoint, run 0 1");
        x.walk(0);
        Check.is("five levels are run", x.run(0, 1), 14);
        Check.is("text", Check.text(x), "bbbbb");
        Check.is("reason", x.failureReason(), Foldback.TOO_DEEP);
        Check.is("command", x.failureCommand(), 2);
        Ed y = new Ed();
        Check.macro(y, 3, "run 2 1");
        Check.macro(y, 2, "move 0, run 3 1");
        y.run(3, 1);
        Check.is("reason", y.failureReason(), Foldback.TOO_DEEP);
        Check.is("the run that would have begun level 6", y.failureCommand(), 300);
        y.run(2, 1);
        Check.is("reason", y.failureReason(), Foldback.TOO_DEEP);
        Check.is("the run that would have begun level 6", y.failureCommand(), 201);
    }

    private static void promise17TooMany() {
        Ed x = recorded("", "insert a, insert a, insert a, insert a, insert a, insert a, "
                + "insert a, insert a, insert a, insert a, insert a, insert a");
        Check.is("commands", x.commands(0), 12);
        x.walk(0);
        Check.is("24 commands", x.run(0, 2), 24);
        Check.is("reason", x.failureReason(), 0);
        Check.is("text", x.length(), 24);
        Check.is("25 commands", x.run(0, 3), 0);
        Check.is("reason", x.failureReason(), Foldback.TOO_MANY);
        Check.is("the 25th", x.failureCommand(), 0);
        Check.is("text", x.length(), 24);
        Check.macro(x, 1, "move 0, run 0 1, checkpoint");
        x.walk(0);
        Check.is("at level 2", x.run(1, 2), 15);
        Check.is("reason", x.failureReason(), Foldback.TOO_MANY);
        Check.is("the 25th", x.failureCommand(), 7);
        Check.is("till the checkpoint", x.length(), 12);
    }

    private static void promise17TooManyAndTooDeep() {
        Ed x = recorded("", "move 0, move 0, move 0, run 0 1");
        x.run(0, 1);
        Check.is("the run of level 6 is the 20th", x.failureReason(), Foldback.TOO_DEEP);
        Check.is("command", x.failureCommand(), 3);
        Check.macro(x, 0, "move 0, move 0, move 0, move 0, run 0 1");
        x.run(0, 1);
        Check.is("the run of level 6 is the 25th", x.failureReason(), Foldback.TOO_MANY);
        Check.is("command", x.failureCommand(), 4);
        Check.macro(x, 1, "move 0, move 0, move 0, run 0 1");
        x.run(1, 1);
        Check.is("the run of level 6 is the 24th", x.failureReason(), Foldback.TOO_DEEP);
        Check.is("command", x.failureCommand(), 4);
        // a 25th command that could not be done either
        Ed y = recorded("z", "move 0, move 0, move 0, move 0, move 0, move 0, move 0, move 0, move 0, move 0, move 0");
        Check.macro(y, 1, "run 0 1, run 0 1, delete 1");
        y.walk(0);
        y.run(1, 1);
        Check.is("as the 25th", y.failureReason(), Foldback.TOO_MANY);
        Check.is("command", y.failureCommand(), 102);
        y.walk(1);
        y.move(-1);
        Check.macro(y, 1, "run 0 1, move 0, delete 1");
        y.run(1, 1);
        Check.is("as the 14th", y.failureReason(), Foldback.NOT_ENOUGH);
    }

    private static void promise17Stores() {
        Ed x = Check.withBlock("abcdef");
        Check.to(x, 0);
        Check.play(x, "track 1, track 4");
        Check.macro(x, 0, "copy 0 1, copy 1 1, kill 1, checkpoint, copy 0 2, copy 1 2, kill 2, search f");
        x.walk(3);
        Check.play(x, "move 5, delete 1, move -5, copy 0 5");
        Check.is("a run that fails", x.run(0, 1), 4);
        Check.is("reason", x.failureReason(), Foldback.NOT_FOUND);
        Check.is("text", Check.text(x), "bcde");
        Check.is("not tracked: as at the failure", Check.store(x, 0), "bc");
        Check.is("tracked: as at the checkpoint", Check.store(x, 1), "a");
        Check.is("the ring: as at the checkpoint", Check.store(x, 4), "a");
        Check.is("steps till the checkpoint", x.stepsOf(x.now()), 3);
        Check.is("stored", x.storedByReplay(x.now(), 4), 1);
        Check.is("stored", x.storedByReplay(x.now(), 1), 1);
        Check.is("stored", x.storedByReplay(x.now(), 0), 0);
        Ed y = recorded("abz", "kill 1, copy 1 1, search z");
        y.walk(1);
        Check.play(y, "move -1, delete 1, move -2");
        Check.is("a run that fails without a checkpoint", y.run(0, 1), 0);
        Check.is("a ring that is not tracked keeps what it got", Check.store(y, 4), "a|a");
        Check.is("text", Check.text(y), "ab");
    }

    private static void promise17Listeners() {
        Ed x = recorded("", "insert a, move -1, search a");
        x.walk(0);
        x.listen(0, 'a', 'c', 0);
        int nodes = x.nodes();
        Check.is("no listener is notified while it runs", x.run(0, 1), 3);
        Check.is("but at its end", Check.text(x), "c");
        Check.is("one change", x.nodes(), nodes + 1);
        Check.is("with the replacement", x.stepsOf(x.now()), 2);
        Ed y = Check.withBlock("p");
        Check.macro(y, 0, "move -1, move 1");
        Check.chase(y);
        Check.is("a run without steps makes no change to notify of", y.run(0, 1), 2);
    }

    private static void promise17RefusedByListeners() {
        Ed x = recorded("z", "insert p, move -1, copy 3 1");
        Check.macro(x, 1, "insert p, checkpoint, search z");
        x.walk(0);
        Check.is("a run that fails", x.run(1, 1), 2);
        Check.is("reason", x.failureReason(), Foldback.NOT_FOUND);
        Check.play(x, "walk 1, move -1, copy 3 1, walk 0");
        Check.chase(x);
        String was = Check.all(x);
        Check.refuses("a run that listeners refuse", Check.ISE, x, () -> x.run(0, 1));
        Check.is("chain", Check.chain(x), "0 1 0 1 0 1 0 1");
        Check.refuses("a run that fails and that listeners refuse", Check.ISE, x, () -> x.run(1, 1));
        Check.is("reason of the run that did not throw", x.failureReason(), Foldback.NOT_FOUND);
        Check.is("a register that is not tracked too is as before", Check.store(x, 3), "z");
        Check.is("all", Check.all(x), was);
        x.unlisten(0);
        x.unlisten(1);
        Check.is("without listeners", x.run(0, 1), 3);
        Check.is("register", Check.store(x, 3), "p");
        Ed y = Check.withBlock("abcdefghijp");
        Check.play(y, "move -11, copy 0 1, copy 1 2, copy 2 3, copy 3 4, kill 1, kill 1");
        Check.macro(y, 0, "copy 0 4, copy 1 4, copy 2 4, copy 3 5, kill 1, rotate, setMark 0 left");
        Check.play(y, "copy 0 1, copy 1 2, copy 2 3, copy 3 4");
        Check.chase(y);
        Check.refuses("a run that sets all stores", Check.ISE, y, () -> y.run(0, 1));
    }

    private static void promise17InGroup() {
        Ed x = recorded("z", "insert a, insert b");
        Check.macro(x, 1, "insert d, checkpoint, insert e, search z");
        x.move(-1);
        Check.macro(x, 2, "insert f, search z");
        x.walk(0);
        int nodes = x.nodes();
        x.open();
        x.insert('c');
        Check.is("run", x.run(0, 1), 2);
        Check.is("text", Check.text(x), "cab");
        Check.is("a run that fails behind a checkpoint", x.run(1, 1), 2);
        Check.is("text", Check.text(x), "cabd");
        Check.is("a run that fails without one", x.run(2, 1), 0);
        Check.is("takes its own steps back", Check.text(x), "cabd");
        Check.is("no change yet", x.nodes(), nodes);
        int node = x.close();
        Check.is("one change", x.nodes(), nodes + 1);
        Check.is("state", Check.replay(x, node), "cabd");
        Check.is("steps", x.stepsOf(node), 4);
        // the steps of a run that failed are in no change, so that none of them is undone either
        Ed y = recorded("z", "insert f, search z");
        y.walk(0);
        y.open();
        y.insert('a');
        Check.is("a run that fails", y.run(0, 1), 0);
        y.close();
        y.undoIn(0, 1);
        Check.is("undone", Check.text(y), "");
        Check.is("by one step", y.stepsOf(y.now()), 1);
    }

    private static void promise18Checkpoint() {
        Ed x = Check.typed("ab");
        String was = Check.all(x);
        x.checkpoint();
        Check.is("nothing happens if it is called", Check.all(x), was);
        x.record(0);
        for (int i = 0; i < 16; i++) {
            x.checkpoint();
        }
        Check.refuses("the recorded list is full", Check.ISE, x, () -> x.checkpoint());
        Check.is("all are in the list", x.stop(), 16);
        Check.is("and are executed", x.run(0, 1), 16);
        Check.is("the last checkpoint counts itself", x.run(0, 2), 24);
        Check.is("reason", x.failureReason(), Foldback.TOO_MANY);
        Check.is("command", x.failureCommand(), 8);
        // neither one that was called nor one of an earlier run is a checkpoint of a run
        x.checkpoint();
        Check.macro(x, 3, "insert c, move -1, delete 1, move -1");
        Check.is("a run without a checkpoint", x.run(3, 2), 0);
        Check.is("goes back to before the call", Check.text(x), "ab");
        Check.is("goes back to before the call", x.point(), 1);
    }

    private static void promise19Record() {
        Ed x = new Ed();
        for (int bad : BAD_MACROS) {
            Check.refuses("record " + bad, Check.IOOBE, x, () -> x.record(bad));
        }
        x.record(0);
        Check.refuses("record while recording", Check.ISE, x, () -> x.record(1));
        Check.refuses("the macro comes first", Check.IOOBE, x, () -> x.record(4));
        x.insert('a');
        Check.fails("a command that throws", Check.ISE, () -> x.move(1));
        Check.fails("a command that throws", Check.IAE, () -> x.move(51));
        Check.play(x, "track 0, pass 1, open, insert b, close, undo, redo, walk 1, setBookmark 0, clearBookmark 0, setBudget 600");
        x.listen(0, 'z', 'y', 0);
        x.unlisten(0);
        x.length();
        x.undoIn(0, 1);
        x.run(0, 1);
        Check.is("the macro is not set yet", x.commands(0), 0);
        Check.is("stop", x.stop(), 3);
        Check.is("only commands that did not throw", x.commands(0), 3);
        Check.is("it runs itself now", x.run(0, 1), 0);
        Check.is("reason", x.failureReason(), Foldback.TOO_DEEP);
        x.record(0);
        Check.is("while recording the old macro is there", x.commands(0), 3);
        Check.is("and it is what runs", x.run(0, 1), 0);
        x.insert('c');
        Check.is("a run that fails is in the list too, but not its commands", x.stop(), 2);
        x.record(3);
        Check.is("nothing recorded", x.stop(), 0);
        x.record(0);
        Check.is("an empty macro in place of the old one", x.stop(), 0);
        Check.is("empty", x.commands(0), 0);
    }

    private static void promise19FullList() {
        Ed x = Check.withBlock("abcdefghij");
        Check.to(x, 0);
        Check.play(x, "kill 1, kill 1, copy 0 1, setMark 0 right, move 6");
        x.record(1);
        Check.play(x, "narrow 0, move -6");
        for (int i = 0; i < 14; i++) {
            x.move(0);
        }
        String[] commands = {"insert a", "overwrite a", "delete 1", "move 0", "search f", "kill 1", "yank", "rotate", "copy 0 1",
            "paste 0", "setMark 0 left", "jump 0", "narrow 0", "widen", "clearMark 0", "run 0 1", "checkpoint"};
        for (String command : commands) {
            Check.refuses(command, Check.ISE, x, () -> Check.play(x, command));
        }
        Check.refuses("run 11 times", Check.IAE, x, () -> x.run(0, 11));
        Check.refuses("move 51", Check.IAE, x, () -> x.move(51));
        Check.refuses("paste of register 4", Check.IOOBE, x, () -> x.paste(4));
        Check.is("stop", x.stop(), 16);
        for (String command : commands) {
            Check.play(x, command);
        }
        Check.is("behind stop() all can be done", x.failureReason(), 0);
        x.record(1);
        x.insert('a');
        Check.is("the list begins anew", x.stop(), 1);
    }

    private static void promise20Stop() {
        Ed x = new Ed();
        Check.refuses("stop", Check.ISE, x, () -> x.stop());
        x.record(2);
        x.insert('a');
        x.insert('b');
        Check.is("stop", x.stop(), 2);
        Check.is("commands", x.commands(2), 2);
        Check.refuses("stop again", Check.ISE, x, () -> x.stop());
        x.insert('c');
        Check.is("no more is recorded", x.commands(2), 2);
        x.record(2);
        x.insert('d');
        Check.is("stop", x.stop(), 1);
        x.run(2, 1);
        Check.is("the new list", Check.text(x), "abcdd");
    }

    private static void promise21Open() {
        Ed x = new Ed();
        x.open();
        Check.refuses("open again", Check.ISE, x, () -> x.open());
        Check.play(x, "insert a, insert b, move -1, overwrite c");
        Check.is("no change yet", x.nodes(), 1);
        Check.is("but the text", Check.text(x), "ac");
        Check.is("the state of the current node", x.lengthByReplay(x.now()), 0);
        x.close();
        x.open();
        x.insert('d');
        Check.is("a second group", x.nodes(), 2);
        // in a group no listener is notified
        Ed y = new Ed();
        Check.chase(y);
        y.open();
        y.insert('p');
        Check.is("text", Check.text(y), "p");
        Check.play(y, "move -1, delete 1");
        y.close();
        Check.is("text", Check.text(y), "");
    }

    private static void promise22Close() {
        Ed x = Check.typed("a");
        Check.refuses("close", Check.ISE, x, () -> x.close());
        x.open();
        Check.is("nothing in between", x.close(), 1);
        Check.is("no change", x.nodes(), 2);
        x.open();
        Check.play(x, "insert b, insert c, setMark 0 right, move -1, kill 1, move -1");
        Check.is("close", x.close(), 2);
        Check.is("one change", x.nodes(), 3);
        Check.is("of all steps", x.stepsOf(2), 4);
        Check.is("state", Check.replay(x, 2), "ab");
        Check.is("mark", x.markByReplay(2, 0), 2);
        Check.refuses("close again", Check.ISE, x, () -> x.close());
        Check.is("undone as one", x.undo(), 1);
        Check.is("text", Check.text(x), "a");
        Check.is("done again", x.redo(), 2);
        Check.is("the point when it was closed", x.point(), 1);
        x.open();
        Check.play(x, "move -1, copy 0 1, move 1");
        Check.is("no steps", x.close(), 2);
        // a node made by close() may be one too many
        x.setBudget(3);
        x.open();
        x.insert('!');
        Check.is("close", x.close(), 3);
        Check.is("merged to the budget", x.nodes(), 3);
        Check.is("the lowest one", x.parentOf(2), 0);
    }

    private static void promise22CloseAndListeners() {
        Ed x = Check.typed("a");
        x.open();
        Check.play(x, "insert p, insert b");
        Check.chase(x);
        Check.refuses("close", Check.ISE, x, () -> x.close());
        Check.is("chain", Check.chain(x), "0 1 0 1 0 1 0 1");
        Check.refuses("the group is still open", Check.ISE, x, () -> x.open());
        Check.refuses("undo in a group", Check.ISE, x, () -> x.undo());
        x.insert('c');
        x.unlisten(1);
        Check.is("close", x.close(), 2);
        Check.is("text", Check.text(x), "aqbc");
        Check.is("steps", x.stepsOf(2), 4);
        Check.is("state", Check.replay(x, 2), "aqbc");
        Ed y = Check.withBlock("p");
        Check.chase(y);
        y.open();
        Check.is("no steps, no change, no listener", y.close(), 1);
    }

    private static void promise23Pass() {
        Ed x = Check.typed("a");
        String was = Check.all(x);
        for (int bad : new int[] {0, -1, 101, Integer.MIN_VALUE, Integer.MAX_VALUE}) {
            Check.refuses("pass " + bad, Check.IAE, x, () -> x.pass(bad));
        }
        x.pass(1);
        x.pass(100);
        Check.is("pass changes nothing else", Check.all(x), was);
        x.insert('b');
        Check.is("time has passed", x.now(), 2);
        x.open();
        x.pass(1);
        x.insert('c');
        Check.is("in a group too", x.close(), 3);
        Check.is("one step", x.stepsOf(3), 1);
    }

    private static void promise24Track() {
        Ed x = Check.withBlock("abcdef");
        Check.to(x, 0);
        Check.play(x, "copy 0 3, kill 1, kill 2");
        for (int bad : new int[] {-1, 5, Integer.MIN_VALUE, Integer.MAX_VALUE}) {
            Check.refuses("track " + bad, Check.IOOBE, x, () -> x.track(bad));
        }
        x.track(0);
        Check.is("a change", x.now(), 4);
        Check.is("of one step", x.stepsOf(4), 1);
        Check.is("contents", x.storedByReplay(4, 0), 3);
        Check.is("empty in all nodes made before", x.storedByReplay(3, 0), 0);
        Check.is("the others are not tracked", x.storedByReplay(4, 4), 0);
        x.track(4);
        Check.is("all entries together", x.storedByReplay(5, 4), 3);
        x.track(3);
        Check.is("an empty store is a step too", x.stepsOf(6), 1);
        for (int store : new int[] {0, 3, 4}) {
            Check.refuses("track again", Check.ISE, x, () -> x.track(store));
        }
        x.walk(0);
        for (int store : new int[] {0, 3, 4}) {
            Check.refuses("tracked for ever", Check.ISE, x, () -> x.track(store));
        }
        Check.is("empty at the root", x.entries(0) + x.entries(4), 0);
        x.walk(6);
        Check.is("contents", Check.store(x, 0), "abc");
        Check.is("contents", Check.store(x, 4), "bc|a");
        x.track(1);
        x.track(2);
        Check.is("all five", x.now(), 8);
    }

    private static void promise24TrackInGroup() {
        Ed x = Check.withBlock("abc");
        Check.to(x, 0);
        x.open();
        Check.play(x, "copy 0 1, track 0, copy 0 2");
        Check.is("no change yet", x.now(), 1);
        Check.is("close", x.close(), 2);
        Check.is("two steps", x.stepsOf(2), 2);
        Check.is("contents", x.storedByReplay(2, 0), 2);
        x.undo();
        Check.is("ahead of it", x.entries(0), 0);
    }

    private static void promise24TrackAndListeners() {
        Ed x = Check.withBlock("ap");
        Check.to(x, 0);
        x.copy(0, 2);
        Check.chase(x);
        Check.refuses("track", Check.ISE, x, () -> x.track(0));
        Check.is("chain", Check.chain(x), "0 1 0 1 0 1 0 1");
        x.walk(0);
        Check.is("it is not tracked", Check.store(x, 0), "ap");
        x.walk(1);
        x.unlisten(1);
        x.track(0);
        Check.is("the listener was notified", Check.text(x), "aq");
        Check.is("steps", x.stepsOf(2), 2);
        x.unlisten(0);
        x.undoIn(1, 1);
        Check.is("the replacement can be undone", Check.text(x), "ap");
    }

    private static void trackedStoresAndWalks() {
        Ed x = Check.withBlock("abcd");
        Check.to(x, 0);
        x.track(4);
        Check.play(x, "kill 1, kill 1, copy 1 2");
        x.undo();
        Check.is("ring", Check.store(x, 4), "a");
        Check.is("a register that is not tracked stays", Check.store(x, 1), "cd");
        x.undo();
        Check.is("ring", Check.store(x, 4), "");
        x.kill(3);
        Check.is("ring", Check.store(x, 4), "abc");
        x.walk(4);
        Check.is("ring", Check.store(x, 4), "b|a");
        Check.is("stored", x.storedByReplay(5, 4), 3);
        Check.is("stored", x.storedByReplay(4, 4), 2);
        x.rotate();
        Check.is("ring", Check.store(x, 4), "a|b");
        Check.is("register", Check.store(x, 1), "cd");
    }
}
