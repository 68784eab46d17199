/**
 * What later calls tell of what no query shows: typing and its ticks, an open group, a list that is being recorded,
 * listeners, tracked stores, views, the gravity of marks, the points of nodes, traces and the budget. Each future is a
 * few calls, and told are their answers and what the queries answer behind them.
 */
final class Future {
    private static final String[] SCRIPTS = {
        "insert 97", "insert 45", "pass 1, insert 97", "pass 2, insert 97", "pass 3, insert 97", "pass 3, insert 45", "pass 4, insert 97",
        "close, undo, redo", "open, setMark 0 1, close, undo", "stop, run 0 1, run 1 1, run 2 1, run 3 1",
        "setMark 0 0, setMark 0 0, setMark 0 0, setMark 0 0, stop", "record 0, stop", "close, undo, insert 99, undo, insert 100",
        "close, redo, redo", "close, undo, undo, redo", "track 0, track 1, track 2, track 3, track 4",
        "unlisten 0, unlisten 1, unlisten 2", "setMark 0 0, setMark 1 1", "widen, widen, widen, widen", "setBudget 2", "setBudget 3",
        "jump 0, insert 33", "jump 1, insert 33", "jump 2, insert 33", "jump 3, insert 33", "jump 4, insert 33", "jump 5, insert 33",
        "yank, rotate, yank", "paste 0, paste 1, paste 2, paste 3", "move -1, delete 1", "insert 98, insert 99, undo, redo",
        "run 0 1", "run 1 2", "run 2 3", "run 3 10", "setBookmark 0, setBookmark 1", "clearBookmark 0, clearBookmark 4, setBudget 2"};
    // behind the scripts: undo in each of a few regions, walks to each of the first nodes, many new nodes
    private static final int REGIONS = 6;
    private static final int WALKS = 8;

    static final int COUNT = SCRIPTS.length + REGIONS + WALKS + 1;
    private static final int PICTURE = 150;

    private Future() {
    }

    static String tell(Foldback x, int future, int calls) {
        StringBuilder told = new StringBuilder();
        int left = calls - PICTURE;
        if (future < SCRIPTS.length) {
            for (String words : SCRIPTS[future].split(", ")) {
                if (left-- > 0) {
                    told.append(Ed.answer(x, call(words))).append(' ');
                }
            }
        } else if (left > 4 && future < SCRIPTS.length + REGIONS) {
            told.append(region(x, future - SCRIPTS.length));
        } else if (left > 4 && future < SCRIPTS.length + REGIONS + WALKS) {
            told.append(Ed.answer(x, call("close"))).append(Ed.answer(x, new Ed.Call("walk", future - SCRIPTS.length - REGIONS)));
        } else if (left > 4) {
            told.append(Ed.answer(x, call("setBudget 600")));
            for (int i = 0; i < Math.min(30, left - 1); i++) {
                told.append(Ed.answer(x, new Ed.Call("setMark", i % 6, i % 2)));
            }
        }
        return told.append(picture(x, Math.min(PICTURE, calls))).toString();
    }

    private static String region(Foldback x, int part) {
        int length = x.length();
        int from = length * (part / 2) / 2;
        int to = part % 2 == 0 ? length : from;
        return Ed.answer(x, call("close")) + ' ' + Ed.answer(x, new Ed.Call("undoIn", from, to)) + ' ' + Ed.answer(x, call("undo"));
    }

    static Ed.Call call(String script) {
        String[] words = script.split(" ");
        int[] arguments = new int[words.length - 1];
        for (int i = 0; i < arguments.length; i++) {
            arguments[i] = Integer.parseInt(words[i + 1]);
        }
        return new Ed.Call(words[0], arguments);
    }

    /** What the queries answer, of the nodes only the current one, of a long text only its beginning. */
    private static String picture(Foldback x, int calls) {
        StringBuilder s = new StringBuilder();
        int left = calls;
        String[] queries = {"length", "point", "viewStart", "viewEnd", "now", "nodes", "failureReason", "failureCommand", "lines",
            "markAt 0", "markAt 1", "markAt 2", "markAt 3", "markAt 4", "markAt 5", "commands 0", "commands 1", "commands 2", "commands 3",
            "entries 0", "entries 1", "entries 2", "entries 3", "entries 4", "bookmarkAt 0", "bookmarkAt 4"};
        for (String query : queries) {
            if (left-- > 0) {
                s.append(query).append(':').append(Ed.answer(x, call(query))).append(' ');
            }
        }
        if (left > 30) {
            left -= 30;
            int now = x.now();
            s.append("steps ").append(x.stepsOf(now)).append(" length ").append(x.lengthByReplay(now)).append(' ');
            for (int store = 0; store < 5; store++) {
                s.append(x.storedByReplay(now, store)).append(' ').append(Ed.answer(x, new Ed.Call("entryLength", store, 0))).append(' ');
            }
            for (int mark = 0; mark < 6; mark++) {
                s.append(x.markByReplay(now, mark)).append(' ');
            }
        }
        for (int i = 0; i < left - 2 && i < 60; i++) {
            s.append(Ed.answer(x, new Ed.Call("charAt", i))).append(' ');
        }
        return s.toString();
    }
}
