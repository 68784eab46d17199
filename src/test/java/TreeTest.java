/** Promises 25 to 33: walks, undo within a region, bookmarks, the budget and listeners. */
public final class TreeTest {
    private static final int[] BAD_BOOKMARKS = {-1, 5, Integer.MIN_VALUE, Integer.MAX_VALUE};

    public static void main(String[] args) {
        promise25Undo();
        promise26Redo();
        promise27Walk();
        promise27WalkAndMerges();
        promise28Arguments();
        promise28Regions();
        promise28Insertions();
        promise28InsertionsMoveTraces();
        promise28DeletionsMoveTraces();
        promise28Deletions();
        promise28Replacements();
        promise28SeveralSteps();
        promise28HowManySteps();
        promise28RegionUndoIsSkipped();
        promise28PointAndMarks();
        promise28TooLong();
        promise28Listeners();
        promise28Merged();
        promise29SetBookmark();
        promise30ClearBookmark();
        promise31SetBudget();
        promise31WhatCanBeMerged();
        promise31MergedChanges();
        promise32Listen();
        promise32Order();
        promise32Depth();
        promise33Unlisten();
        Check.end("TreeTest");
    }

    // ---- walks

    private static void promise25Undo() {
        Ed x = new Ed();
        Check.refuses("undo at the root", Check.ISE, x, () -> x.undo());
        Check.play(x, "insert a, insert -, insert b, setMark 0 right, move -2, setMark 1 left, narrow 0");
        Check.is("undo", x.undo(), 4);
        Check.is("now", x.now(), 4);
        Check.is("mark", x.markAt(1), Foldback.NONE);
        Check.is("no view", x.viewStart(), 0);
        Check.is("the node's point", x.point(), 3);
        Check.is("undo", x.undo(), 3);
        Check.is("undo", x.undo(), 2);
        Check.is("text", Check.text(x), "a-");
        x.open();
        Check.refuses("undo in a group", Check.ISE, x, () -> x.undo());
        x.close();
        Check.is("undo", x.undo(), 1);
        Check.is("undo", x.undo(), 0);
        Check.is("nodes stay", x.nodes(), 6);
        x.open();
        Check.refuses("undo in a group at the root", Check.ISE, x, () -> x.undo());
        Ed y = Check.typed("p-");
        Check.chase(y);
        Check.is("walks notify no listener", y.undo(), 1);
        Check.is("text", Check.text(y), "p");
    }

    private static void promise26Redo() {
        Ed x = new Ed();
        Check.refuses("redo without a child", Check.ISE, x, () -> x.redo());
        Check.play(x, "insert a, undo, insert b, undo, insert c, setMark 0 left, walk 1, walk 0");
        Check.is("the newest child", x.redo(), 3);
        Check.is("text", Check.text(x), "c");
        Check.is("point", x.point(), 1);
        Check.is("redo", x.redo(), 4);
        Check.is("mark", x.markAt(0), 1);
        Check.refuses("no child", Check.ISE, x, () -> x.redo());
        Check.play(x, "move -1, narrow 0, undo");
        x.open();
        Check.refuses("redo in a group", Check.ISE, x, () -> x.redo());
        x.close();
        x.move(-1);
        Check.is("redo", x.redo(), 4);
        Check.is("the node's point", x.point(), 1);
    }

    private static void promise27Walk() {
        Ed x = Check.typed("a-b");
        Check.play(x, "undo, undo, insert c, insert -, insert d");
        Check.is("up and down", x.walk(3), 5);
        Check.is("text", Check.text(x), "a-b");
        Check.is("back", x.walk(6), 5);
        Check.is("text", Check.text(x), "ac-d");
        Check.is("up", x.walk(1), 3);
        Check.is("down", x.walk(3), 2);
        Check.is("to the root", x.walk(0), 3);
        Check.is("text", Check.text(x), "");
        Check.is("from the root", x.walk(5), 3);
        Check.is("to a leaf", x.walk(2), 3);
        x.setMark(0, true);
        Check.play(x, "move -2, narrow 0, walk 7");
        Check.is("the current node", x.walk(7), 0);
        Check.is("its point", x.point(), 2);
        x.move(-2);
        x.narrow(0);
        x.move(1);
        Check.is("the current node", x.walk(7), 0);
        Check.is("its point again", x.point(), 2);
        Check.fails("no view", Check.ISE, () -> x.widen());
        for (int bad : new int[] {-1, 8, 9, 1000, Integer.MIN_VALUE, Integer.MAX_VALUE}) {
            Check.refuses("walk to " + bad, Check.IOOBE, x, () -> x.walk(bad));
        }
        x.open();
        Check.refuses("in a group", Check.ISE, x, () -> x.walk(7));
        Check.refuses("the node comes first", Check.IOOBE, x, () -> x.walk(8));
        Check.refuses("the node that comes next", Check.IOOBE, x, () -> x.walk(-1));
    }

    private static void promise27WalkAndMerges() {
        Ed x = Check.typed("a-b-c");
        x.setBudget(3);
        // nodes 1 to 3 are merged into 4
        for (int gone = 1; gone <= 3; gone++) {
            int node = gone;
            Check.refuses("walk to a merged node", Check.IOOBE, x, () -> x.walk(node));
        }
        Check.is("to the root", x.walk(0), 2);
        Check.is("to the merged one", x.walk(4), 1);
        Check.is("text", Check.text(x), "a-b-");
        Check.is("point", x.point(), 4);
    }

    // ---- undo within a region

    private static void promise28Arguments() {
        Ed x = Check.typed("abc");
        int[][] bad = {{-1, 0}, {4, 4}, {0, 4}, {2, 1}, {0, -1}, {Integer.MIN_VALUE, 1}, {0, Integer.MAX_VALUE}, {4, 3}};
        for (int[] b : bad) {
            Check.refuses("undoIn " + b[0] + " " + b[1], Check.IAE, x, () -> x.undoIn(b[0], b[1]));
        }
        x.open();
        Check.refuses("in a group", Check.ISE, x, () -> x.undoIn(0, 3));
        Check.refuses("the arguments come first", Check.IAE, x, () -> x.undoIn(0, 4));
        x.close();
        Ed y = new Ed();
        Check.refuses("nothing there", Check.ISE, y, () -> y.undoIn(0, 0));
        Check.refuses("beyond the empty text", Check.IAE, y, () -> y.undoIn(0, 1));
        Check.is("undoIn", x.undoIn(0, 3), 2);
        Check.is("parent", x.parentOf(2), 1);
        Check.is("now", x.now(), 2);
        Check.is("steps", x.stepsOf(2), 1);
        Check.is("text", Check.text(x), "");
        x.undo();
        Check.is("undone itself", Check.text(x), "abc");
        x.insert('d');
        Check.is("undoIn and undo end typing", x.now(), 3);
    }

    /** Node 1 typed ab, node 2 cd behind it. */
    private static Ed twoWords() {
        Ed x = Check.typed("ab");
        x.move(0);
        Check.type(x, "cd");
        return x;
    }

    private static String afterUndoIn(Ed x, int from, int to) {
        x.undoIn(from, to);
        return Check.text(x);
    }

    private static void promise28Regions() {
        Check.is("all", afterUndoIn(twoWords(), 0, 4), "ab");
        Check.is("the end", afterUndoIn(twoWords(), 4, 4), "ab");
        Check.is("the place between belongs to both, the later one is undone", afterUndoIn(twoWords(), 2, 2), "ab");
        Check.is("ahead of it", afterUndoIn(twoWords(), 1, 1), "cd");
        Check.is("the start", afterUndoIn(twoWords(), 0, 0), "cd");
        Check.is("up to the place between", afterUndoIn(twoWords(), 0, 2), "ab");
        Ed x = Check.withBlock("0123456789");
        Check.play(x, "move -5, insert a");
        Check.refuses("behind it, and the block has too many steps", Check.ISE, x, () -> x.undoIn(7, 11));
        Check.refuses("ahead of it", Check.ISE, x, () -> x.undoIn(0, 4));
        Check.is("its end", afterUndoIn(x, 6, 11), "0123456789");
    }

    private static void promise28Insertions() {
        Ed inside = Check.typed("ab");
        Check.play(inside, "move -1, insert x");
        Check.refuses("a covered trace", Check.ISE, inside, () -> inside.undoIn(0, 0));
        Check.is("the one that covers it", afterUndoIn(inside, 0, 3), "ab");
        Check.refuses("still covered", Check.ISE, inside, () -> inside.undoIn(0, 2));
        Ed ahead = Check.typed("ab");
        Check.play(ahead, "move -2, insert x");
        Check.is("an insertion right ahead moves the trace", afterUndoIn(ahead, 3, 3), "x");
        Ed behind = Check.typed("ab");
        Check.play(behind, "move 0, insert x");
        Check.is("one right behind leaves it", afterUndoIn(behind, 0, 1), "x");
        Ed yank = Check.withBlock("012345678");
        Check.play(yank, "move -9, kill 3, move 2, yank, move -5, insert x");
        Check.is("an insertion of several characters", afterUndoIn(yank, 5, 5), "x345678");
    }

    private static void promise28InsertionsMoveTraces() {
        Ed deletion = Check.withBlock("0123456789");
        Check.play(deletion, "move -5, delete 1, move -1, insert x");
        Check.is("an insertion ahead of a place", afterUndoIn(deletion, 6, 6), "0123x456789");
        Ed at = Check.withBlock("0123456789");
        Check.play(at, "move -5, delete 1, insert x");
        Check.refuses("an insertion at the very place covers it", Check.ISE, at, () -> at.undoIn(7, 10));
        at.undoIn(6, 10);
        Check.refuses("still", Check.ISE, at, () -> at.undoIn(0, 9));
        Ed behind = Check.withBlock("0123456789");
        Check.play(behind, "move -5, delete 1, move 1, insert x");
        Check.is("an insertion behind it", afterUndoIn(behind, 5, 5), "0123456x789");
        Ed replacement = Check.withBlock("0123456789");
        Check.play(replacement, "move -5, overwrite x, move -1, insert y");
        Check.is("an insertion right ahead of a replacement", afterUndoIn(replacement, 7, 7), "01234y56789");
        Ed right = Check.withBlock("0123456789");
        Check.play(right, "move -5, overwrite x, insert y");
        Check.is("an insertion right behind it", afterUndoIn(right, 5, 5), "012345y6789");
    }

    private static void promise28DeletionsMoveTraces() {
        Ed ahead = twoWords();
        Check.play(ahead, "move -4, delete 1");
        Check.is("a deletion ahead", afterUndoIn(ahead, 3, 3), "b");
        Ed right = twoWords();
        Check.play(right, "move -4, delete 2");
        Check.is("a deletion right ahead", afterUndoIn(right, 1, 2), "");
        Ed behind = twoWords();
        Check.play(behind, "move -2, delete 2");
        Check.is("a deletion right behind", afterUndoIn(behind, 0, 1), "");
        Ed inside = twoWords();
        Check.play(inside, "move -3, delete 2");
        Check.refuses("a deletion that takes a part", Check.ISE, inside, () -> inside.undoIn(0, 0));
        Check.refuses("a deletion that takes a part", Check.ISE, inside, () -> inside.undoIn(2, 2));
        Ed place = Check.withBlock("0123456789");
        Check.play(place, "move -5, delete 1, move -1, delete 2");
        Check.is("a deletion around a place", afterUndoIn(place, 4, 4), "012346789");
        Check.refuses("covers it", Check.ISE, place, () -> place.undoIn(0, 9));
        Ed up = Check.withBlock("0123456789");
        // the replacement at the end has the change found, though a later one has its place at 3 too
        Check.play(up, "move -5, open, delete 1, move 3, overwrite x, close, move -6, delete 2");
        Check.is("a deletion up to a place moves it back", afterUndoIn(up, 7, 7), "01256789");
        Ed from = Check.withBlock("0123456789");
        Check.play(from, "move -5, delete 1, delete 2");
        from.setBookmark(0);
        Check.is("the later one first", afterUndoIn(from, 5, 5), "012346789");
        Check.refuses("whose opposite covers the earlier one", Check.ISE, from, () -> from.undoIn(5, 5));
    }

    private static void promise28Deletions() {
        Ed x = Check.withBlock("abcdef");
        Check.play(x, "move -4, delete 2");
        Check.is("inserted again", afterUndoIn(x, 2, 2), "abcdef");
        Check.is("node", x.now(), 3);
        Check.refuses("its own opposite covers it", Check.ISE, x, () -> x.undoIn(0, 6));
        x.undo();
        Check.is("state", Check.text(x), "abef");
        Check.is("a second time from there", x.undoIn(0, 4), 4);
        Check.is("text", Check.text(x), "abcdef");
        Ed kill = Check.withBlock("abcdefghij");
        kill.track(4);
        Check.play(kill, "move -8, kill 3");
        Check.is("a kill is undone in the text", afterUndoIn(kill, 2, 2), "abcdefghij");
        Check.is("but not in the ring", Check.store(kill, 4), "cde");
        Check.is("one step", kill.stepsOf(kill.now()), 1);
    }

    private static void promise28Replacements() {
        Ed x = Check.withBlock("0123456789");
        Check.play(x, "move -5, overwrite x");
        Check.refuses("ahead", Check.ISE, x, () -> x.undoIn(0, 4));
        Check.refuses("behind", Check.ISE, x, () -> x.undoIn(7, 10));
        Check.is("right behind", afterUndoIn(x, 6, 10), "0123456789");
        Check.refuses("covered by its opposite", Check.ISE, x, () -> x.undoIn(0, 10));
        Ed twice = Check.withBlock("0123456789");
        Check.play(twice, "move -5, overwrite x, move -1, overwrite y");
        Check.is("the later one", afterUndoIn(twice, 5, 5), "01234x6789");
        Check.refuses("the earlier one is covered", Check.ISE, twice, () -> twice.undoIn(0, 10));
        Ed beside = Check.withBlock("0123456789");
        Check.play(beside, "move -5, overwrite x, overwrite y, move -3, overwrite z");
        Check.is("others beside it do not cover it", afterUndoIn(beside, 6, 6), "0123zx6789");
        Ed typed = Check.typed("abc");
        Check.play(typed, "move -1, overwrite x");
        Check.refuses("a replacement covers an insertion", Check.ISE, typed, () -> typed.undoIn(0, 0));
        Ed place = Check.withBlock("0123456789");
        Check.play(place, "move -5, open, delete 1, move 3, overwrite x, close, move -4, overwrite y");
        Check.is("but no place", afterUndoIn(place, 9, 9), "012345y789");
    }

    private static void promise28SeveralSteps() {
        Ed back = Check.withBlock("abcdefghi");
        Check.play(back, "move -6, open, delete 1, move -1, delete 1, close");
        Check.is("text", Check.text(back), "abefghi");
        Check.is("the later deletion had moved the earlier place back", afterUndoIn(back, 2, 2), "abcdefghi");
        Check.is("two steps", back.stepsOf(back.now()), 2);
        Ed stays = Check.withBlock("abcdefghi");
        Check.play(stays, "move -7, open, delete 1, delete 1, close");
        Check.is("the later deletion had not moved it", afterUndoIn(stays, 2, 2), "abcdefghi");
        Ed three = Check.withBlock("abcdefghi");
        Check.play(three, "move -6, open, delete 1, move -1, delete 1, delete 1, move -2, delete 1, close");
        Check.is("text", Check.text(three), "bfghi");
        Check.is("several", afterUndoIn(three, 1, 1), "abcdefghi");
        Ed again = Check.withBlock("abcdefghi");
        Check.play(again, "move -6, open, delete 1, move -1, delete 1, close, undoIn 2 2, walk 1, move -7, open, delete 1, delete 1, close");
        Check.is("text", Check.text(again), "abefghi");
        Check.is("what moved in another change does not count", afterUndoIn(again, 2, 2), "abcdefghi");
        Ed apart = Check.withBlock("abcdefghi");
        Check.play(apart, "move -5, open, delete 1, move -3, delete 1, close");
        Check.is("text", Check.text(apart), "acdfghi");
        Check.is("apart from one another", afterUndoIn(apart, 3, 3), "abcdefghi");
        // a later change brings the places of b and e together
        Check.play(apart, "undo, move 0, delete 2");
        Check.is("text", Check.text(apart), "afghi");
        Check.is("only the later change has its place there", afterUndoIn(apart, 1, 1), "acdfghi");
        Ed mixed = Check.withBlock("abcdefghi");
        Check.play(mixed, "move -9, open, insert x, move 2, overwrite y, move 1, delete 2, close");
        Check.is("text", Check.text(mixed), "xabydghi");
        Check.refuses("no trace in the region", Check.ISE, mixed, () -> mixed.undoIn(2, 2));
        Check.is("one trace in the region is enough", afterUndoIn(mixed, 5, 8), "abcdefghi");
        Ed met = Check.withBlock("abcdefghi");
        Check.play(met, "move -5, open, delete 1, move -3, delete 1, move 5, overwrite x, close, move -6, delete 2");
        Check.is("places that met later on, the later deletion had moved the earlier place", afterUndoIn(met, 5, 5), "abefghi");
        Ed other = Check.withBlock("abcdefghi");
        Check.play(other, "move -8, open, delete 1, move 2, delete 1, move 3, overwrite x, close, move -6, delete 2");
        Check.is("the later deletion had not moved it", afterUndoIn(other, 5, 5), "abefghi");
    }

    private static void promise28HowManySteps() {
        Ed eight = Check.withBlock("abcdefgh");
        Check.is("8 text steps", afterUndoIn(eight, 0, 0), "");
        Check.is("steps", eight.stepsOf(2), 8);
        Ed ahead = Check.withBlock("abcdefgh");
        Check.play(ahead, "insert x");
        Check.is("ahead of another change", afterUndoIn(ahead, 0, 0), "x");
        Ed later = Check.withBlock("abcdefgh");
        Check.block(later, "ijklmnop");
        Check.is("behind another change", afterUndoIn(later, 16, 16), "abcdefgh");
        Ed refused = Check.typed("z");
        Check.chase(refused);
        Check.refuses("refused by listeners", Check.ISE, refused, () -> refused.insert('p'));
        refused.unlisten(0);
        refused.unlisten(1);
        Check.block(refused, "abcdefgh");
        Check.is("steps of a call that threw are not counted", afterUndoIn(refused, 9, 9), "z");
        Ed nine = Check.withBlock("abcdefghi");
        Check.refuses("9 text steps", Check.ISE, nine, () -> nine.undoIn(0, 9));
        Ed marks = Check.typed("ab");
        Check.play(marks, "setMark 0 right, track 0");
        Check.is("changes without text steps are passed over", afterUndoIn(marks, 0, 0), "");
        Check.is("node", marks.now(), 4);
        Check.is("mark", marks.markAt(0), 0);
        Ed more = new Ed();
        Check.play(more, "open, setMark 0 left, insert a, insert b, insert c, insert d, insert e, insert f, insert g, insert h, setMark 1 left, close");
        Check.is("10 steps", more.stepsOf(1), 10);
        Check.is("only text steps count", afterUndoIn(more, 0, 0), "");
        Check.is("and only they are undone", more.stepsOf(2), 8);
        Check.is("mark", more.markAt(1), 0);
    }

    private static void promise28RegionUndoIsSkipped() {
        Ed x = twoWords();
        Check.is("the last one", afterUndoIn(x, 0, 4), "ab");
        Check.is("the one before it", afterUndoIn(x, 0, 2), "");
        Check.is("node", x.now(), 4);
        Check.refuses("no region undo is undone", Check.ISE, x, () -> x.undoIn(0, 0));
        Check.is("undo", x.undo(), 3);
        Check.is("text", Check.text(x), "ab");
        Check.is("undo", x.undo(), 2);
        Check.is("undoIn again makes a new node", x.undoIn(0, 1), 5);
        Check.is("text", Check.text(x), "cd");
        Check.is("newest child", x.newestChild(2), 5);
    }

    private static void promise28PointAndMarks() {
        Ed x = Check.withBlock("0123456789");
        Check.play(x, "move -5, setMark 0 left, setMark 1 right, delete 2, setMark 2 left, setMark 3 right, move 1, setMark 4 left, move -1");
        x.undoIn(5, 5);
        Check.is("the point at the place stays", x.point(), 5);
        Check.is("left mark", x.markAt(2), 5);
        Check.is("right mark", x.markAt(3), 7);
        Check.is("mark behind", x.markAt(4), 8);
        Check.is("mark that was there before", x.markAt(0), 5);
        Check.is("right mark that was there before", x.markAt(1), 7);
        x.move(-1);
        x.walk(x.now());
        Check.is("the node's point", x.point(), 5);
        Ed y = Check.withBlock("0123456789");
        Check.play(y, "move -5, delete 2, move 1");
        y.undoIn(5, 5);
        Check.is("a point behind moves", y.point(), 8);
        Ed z = twoWords();
        Check.play(z, "move -3");
        z.undoIn(0, 1);
        Check.is("a point in deleted characters", z.point(), 0);
    }

    private static void promise28TooLong() {
        Ed x = Check.full();
        Check.play(x, "move -1, delete 1, move -1, insert x");
        Check.refuses("401 characters", Check.ISE, x, () -> x.undoIn(400, 400));
        Check.play(x, "delete 1, setMark 0 left");
        Check.is("400 characters", x.undoIn(399, 399) > 0, true);
        Ed y = Check.full();
        Check.play(y, "move -5, delete 1, open, insert y, delete 1, close, move -50, insert x");
        // of the group only the insertion of y would be left to take back when there are 401
        Check.refuses("401 behind one of the opposites", Check.ISE, y, () -> y.undoIn(397, 397));
        Check.play(y, "move -1, delete 1");
        Check.is("with room it is undone", y.undoIn(396, 396) > 0, true);
        Check.is("length", y.length(), 399);
        Ed z = Check.full();
        Check.play(z, "move -5, open, setMark 0 right, delete 2, delete 1, close, move -50, insert x, insert x");
        Check.refuses("the second opposite", Check.ISE, z, () -> z.undoIn(397, 397));
        Check.play(z, "setMark 1 left, move -2, delete 2");
        Check.is("with room it is undone", z.undoIn(395, 395) > 0, true);
        Check.is("length", z.length(), 400);
    }

    private static void promise28Listeners() {
        Ed x = twoWords();
        x.listen(0, 'a', 'e', 0);
        Check.is("listeners are notified", afterUndoIn(x, 4, 4), "eb");
        Check.is("two steps", x.stepsOf(3), 2);
        Ed y = Check.typed("p-");
        y.move(0);
        Check.chase(y);
        Check.refuses("too deep", Check.ISE, y, () -> y.undoIn(2, 2));
        Check.is("chain", Check.chain(y), "0 1 0 1 0 1 0 1");
        y.unlisten(0);
        Check.is("without one of them", afterUndoIn(y, 2, 2), "p");
    }

    private static void promise28Merged() {
        Ed x = twoWords();
        x.setBookmark(0);
        x.undoIn(4, 4);
        Check.play(x, "move -2, insert x, setBudget 4");
        Check.is("the nodes 2 and 0 are kept", x.parentOf(4), 3);
        Check.is("node 1 is merged", Check.exists(x, 1), false);
        x.setBudget(3);
        Check.is("the region undo is merged into the insertion", x.stepsOf(4), 2);
        Check.is("which is no region undo: both are undone", afterUndoIn(x, 3, 3), "abcd");
        Ed y = twoWords();
        Check.play(y, "setBookmark 0, walk 1, setBookmark 1, walk 2, undoIn 4 4, undoIn 0 0, setBudget 4");
        Check.is("two region undos are merged", y.stepsOf(4), 2);
        Check.is("into one", y.parentOf(4), 2);
        Check.refuses("which is a region undo", Check.ISE, y, () -> y.undoIn(0, 0));
        Ed w = twoWords();
        Check.play(w, "setBookmark 0, walk 1, setBookmark 1, walk 2, insert x, undoIn 0 1, setBudget 4");
        Check.is("an insertion is merged into a region undo", w.stepsOf(4), 2);
        Check.is("which is no region undo then", afterUndoIn(w, 0, 0), "abcd");
        Ed z = twoWords();
        z.setBudget(2);
        Check.is("merged changes", z.stepsOf(2), 2);
        Check.is("are undone together", afterUndoIn(z, 4, 4), "");
    }

    // ---- bookmarks and the budget

    private static void promise29SetBookmark() {
        Ed x = Check.typed("a-");
        Check.is("set", x.setBookmark(0), Foldback.NONE);
        x.undo();
        Check.is("set to another node", x.setBookmark(0), 2);
        Check.is("the last bookmark", x.setBookmark(4), Foldback.NONE);
        Check.is("bookmark", x.bookmarkAt(0), 1);
        Check.is("set again", x.setBookmark(0), 1);
        for (int bad : BAD_BOOKMARKS) {
            Check.refuses("setBookmark " + bad, Check.IOOBE, x, () -> x.setBookmark(bad));
        }
        x.walk(0);
        x.open();
        Check.is("at the root, in a group", x.setBookmark(1), Foldback.NONE);
        Check.is("bookmark", x.bookmarkAt(1), 0);
        Check.is("was the root", x.setBookmark(1), 0);
    }

    private static void promise30ClearBookmark() {
        Ed x = Check.typed("a-b");
        Check.is("not set", x.clearBookmark(0), Foldback.NONE);
        x.undo();
        x.setBookmark(0);
        x.setBookmark(4);
        Check.is("clear", x.clearBookmark(0), 2);
        Check.is("not set then", x.bookmarkAt(0), Foldback.NONE);
        Check.is("clear again", x.clearBookmark(0), Foldback.NONE);
        for (int bad : BAD_BOOKMARKS) {
            Check.refuses("clearBookmark " + bad, Check.IOOBE, x, () -> x.clearBookmark(bad));
        }
        x.walk(3);
        Check.is("the other bookmark still holds the node", x.setBudget(3), 1);
        Check.is("node 1 went", x.parentOf(2), 0);
        Check.is("clear", x.clearBookmark(4), 2);
        Check.is("nothing is merged by this", x.nodes(), 3);
        Check.is("but then", x.setBudget(2), 1);
    }

    private static void promise31SetBudget() {
        Ed x = Check.typed("a-b-c-");
        for (int bad : new int[] {1, 0, -1, 601, Integer.MIN_VALUE, Integer.MAX_VALUE}) {
            Check.refuses("setBudget " + bad, Check.IAE, x, () -> x.setBudget(bad));
        }
        Check.is("enough", x.setBudget(600), 0);
        Check.is("just enough", x.setBudget(7), 0);
        Check.is("one too many", x.setBudget(6), 1);
        Check.is("the lowest number", Check.exists(x, 1), false);
        Check.is("is merged into its child", x.stepsOf(2), 2);
        Check.is("parent", x.parentOf(2), 0);
        Check.is("child", x.newestChild(0), 2);
        Check.is("state", Check.replay(x, 2), "a-");
        Check.is("two more", x.setBudget(4), 2);
        Check.is("steps", x.stepsOf(4), 4);
        Check.is("nodes", x.nodes(), 4);
        x.insert('d');
        Check.is("a new node is numbered on", x.now(), 7);
        Check.is("and one is merged at once", x.nodes(), 4);
        Check.is("steps", x.stepsOf(5), 5);
        Check.is("down to two", x.setBudget(2), 2);
        Check.is("all in one", x.stepsOf(7), 7);
        Check.is("state", Check.replay(x, 7), "a-b-c-d");
        Check.is("one undo", x.undo(), 0);
        Check.is("text", Check.text(x), "");
        Check.is("600 is not the number of nodes", x.setBudget(600), 0);
    }

    private static void promise31WhatCanBeMerged() {
        Ed x = Check.typed("a-b-");
        Check.play(x, "walk 2, insert c, insert -, insert d, walk 3");
        // 0 - 1 - 2 - 3 - 4 and 2 - 5 - 6 - 7, the current node is 3
        x.setBudget(5);
        Check.is("node 1", Check.exists(x, 1), false);
        Check.is("node 2 has two children", Check.exists(x, 2), true);
        Check.is("node 3 is the current one", Check.exists(x, 3), true);
        Check.is("node 4 has no child", Check.exists(x, 4), true);
        Check.is("node 5", Check.exists(x, 5), false);
        Check.is("node 6", Check.exists(x, 6), false);
        Check.is("steps of node 7", x.stepsOf(7), 3);
        Check.is("its parent", x.parentOf(7), 2);
        Check.is("state", Check.replay(x, 7), "a-c-d");
        Check.is("nothing more can be merged", x.setBudget(2), 0);
        Check.is("nodes", x.nodes(), 5);
        x.walk(4);
        Check.is("the current one is another", x.setBudget(2), 1);
        Check.is("node 3", Check.exists(x, 3), false);
        Check.is("point of node 4", x.point(), 4);
        Ed y = Check.typed("a-b-");
        Check.play(y, "walk 1, setBookmark 2, walk 4, setBudget 2");
        Check.is("a bookmark keeps its node", y.nodes(), 3);
        Check.is("node 1", Check.exists(y, 1), true);
        Check.is("steps of node 4", y.stepsOf(4), 3);
        y.insert('c');
        Check.is("a node that is made when nothing else can be merged", y.nodes(), 3);
        Check.is("takes the one that was current", y.stepsOf(5), 4);
    }

    private static void promise31MergedChanges() {
        Ed x = new Ed();
        Check.play(x, "setMark 0 right, insert a, insert -, move -1, setMark 1 left, delete 1, insert z, track 2, walk 0, walk 7");
        String replay = Check.replay(x, 6);
        int mark = x.markByReplay(6, 1);
        x.walk(6);
        int point = x.point();
        x.setBookmark(0);
        Check.play(x, "walk 7, setBudget 3");
        Check.is("nodes", x.nodes(), 3);
        Check.is("state", Check.replay(x, 6), replay);
        Check.is("mark", x.markByReplay(6, 1), mark);
        Check.is("steps", x.stepsOf(6), 6);
        x.undo();
        Check.is("point", x.point(), point);
        Check.is("text", Check.text(x), replay);
        // the steps of the merged node come first
        Ed y = Check.withBlock("abcdefghi");
        Check.play(y, "move -6, delete 1, move -1, delete 1, setBookmark 0, walk 1, setBookmark 1, walk 3, setBudget 3");
        Check.is("merged", y.stepsOf(3), 2);
        Check.is("undone from the last to the first", afterUndoIn(y, 2, 2), "abcdefghi");
    }

    // ---- listeners

    private static void promise32Listen() {
        Ed x = Check.typed("ab");
        for (int bad : new int[] {-1, 3, Integer.MIN_VALUE, Integer.MAX_VALUE}) {
            Check.refuses("listen " + bad, Check.IOOBE, x, () -> x.listen(bad, 'a', 'b', 0));
            Check.refuses("the listener comes first", Check.IOOBE, x, () -> x.listen(bad, 9, 9, -1));
        }
        for (int bad : new int[] {9, 11, 31, 127, -1, Integer.MAX_VALUE}) {
            Check.refuses("from " + bad, Check.IAE, x, () -> x.listen(0, bad, 'b', 0));
            Check.refuses("to " + bad, Check.IAE, x, () -> x.listen(0, 'a', bad, 0));
        }
        for (int bad : new int[] {-1, 10, Integer.MIN_VALUE, Integer.MAX_VALUE}) {
            Check.refuses("rank " + bad, Check.IAE, x, () -> x.listen(0, 'a', 'b', bad));
        }
        Check.refuses("from is to", Check.IAE, x, () -> x.listen(0, 'a', 'a', 0));
        x.insert('c');
        Check.is("no listener is active", Check.text(x), "abc");
        x.listen(0, 'a', 10, 0);
        Check.is("it is not notified by this", Check.text(x), "abc");
        x.insert(' ');
        Check.is("only the first one", Check.text(x), "\nbc ");
        Check.is("a step of the same change", x.stepsOf(x.now()), 2);
        x.listen(0, 126, 32, 9);
        x.insert('a');
        Check.is("it is changed", Check.text(x), "\nbc a");
        x.insert('~');
        Check.is("the whole text, the other character", Check.text(x), "\nbc a ");
        x.setMark(0, false);
        Check.play(x, "move -2, setMark 1 left, narrow 0");
        x.listen(0, 'b', 'B', 5);
        x.setMark(2, true);
        Check.is("also ahead of the view", Check.text(x), "\nBc a ");
        Check.is("the point stays", x.point(), 4);
        Check.is("the view stays", x.viewStart(), 4);
        Ed y = Check.typed("xxx");
        y.listen(2, 'x', 'y', 0);
        y.insert('-');
        Check.is("its own replacement notifies it again", Check.text(y), "yyy-");
        Check.is("steps", y.stepsOf(y.now()), 4);
    }

    private static void promise32Order() {
        Ed x = new Ed();
        x.listen(0, 'a', 'b', 3);
        x.listen(1, 'a', 'c', 1);
        x.listen(2, 'a', 'd', 2);
        x.insert('a');
        Check.is("the lowest rank first", Check.text(x), "c");
        x.listen(1, 'a', 'c', 9);
        x.insert('a');
        Check.is("a rank that was changed", Check.text(x), "cd");
        x.listen(0, 'a', 'b', 2);
        x.insert('a');
        Check.is("of the same rank the lowest number", Check.text(x), "cdb");
        Ed y = new Ed();
        y.listen(0, 'a', 'b', 0);
        y.listen(1, 'b', 'c', 1);
        y.listen(2, 'b', 'd', 2);
        y.insert('a');
        Check.is("a replacement is told before the next listener is notified", Check.text(y), "c");
        Check.is("steps", y.stepsOf(1), 3);
        Ed z = Check.typed("ba");
        z.listen(0, 'a', 'b', 0);
        z.listen(1, 'b', 'c', 1);
        z.insert('-');
        Check.is("first characters", Check.text(z), "cc-");
        Check.is("replay", Check.replay(z, z.now()), "cc-");
    }

    private static void promise32Depth() {
        Ed x = Check.withBlock("aaaaaaa");
        x.listen(1, 'a', 'b', 0);
        x.insert('-');
        Check.is("seven replacements, one within the other", Check.text(x), "bbbbbbb-");
        Check.is("steps", x.stepsOf(2), 8);
        Check.is("no chain", Check.chain(x), "-1 -1 -1 -1 -1 -1 -1 -1");
        Ed y = Check.withBlock("aaaaaaaa");
        y.listen(1, 'a', 'b', 0);
        Check.refuses("the eighth", Check.ISE, y, () -> y.insert('-'));
        Check.is("chain", Check.chain(y), "1 1 1 1 1 1 1 1");
        y.unlisten(1);
        y.insert('-');
        Check.is("the chain stays", Check.chain(y), "1 1 1 1 1 1 1 1");
        y.listen(0, 'c', 'd', 0);
        y.listen(1, 'd', 'e', 0);
        y.listen(2, 'e', 'c', 0);
        Check.refuses("another", Check.ISE, y, () -> y.insert('d'));
        Check.is("its chain", Check.chain(y), "1 2 0 1 2 0 1 2");
        Check.fails("a call that throws for another reason", Check.ISE, () -> y.move(50));
        Check.is("does not change it", Check.chain(y), "1 2 0 1 2 0 1 2");
    }

    private static void promise33Unlisten() {
        Ed x = new Ed();
        for (int bad : new int[] {-1, 3, Integer.MIN_VALUE, Integer.MAX_VALUE}) {
            Check.refuses("unlisten " + bad, Check.IOOBE, x, () -> x.unlisten(bad));
        }
        Check.is("not active", x.unlisten(2), false);
        x.listen(2, 'a', 'b', 0);
        Check.is("active", x.unlisten(2), true);
        Check.is("not active any more", x.unlisten(2), false);
        x.insert('a');
        Check.is("not notified", Check.text(x), "a");
        x.listen(2, 'a', 'b', 0);
        x.listen(0, 'b', 'c', 0);
        Check.is("only one", x.unlisten(0), true);
        x.insert('-');
        Check.is("the other one", Check.text(x), "b-");
    }
}
