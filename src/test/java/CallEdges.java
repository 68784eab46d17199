/** The sentences of the promises 19 to 33: recording, groups, time, stores, the tree. */
final class CallEdges {
    private static final String[] NOT_0_TO_4 = {"-1", "5", "6", "MIN", "MAX"};

    private CallEdges() {
    }

    static void all() {
        promise19Record();
        promise20Stop();
        promise21Open();
        promise22Close();
        promise23Pass();
        promise24Track();
        promise25Undo();
        promise26Redo();
        promise27Walk();
        promise28UndoIn();
        promise28UndoInThrows();
        promise29SetBookmark();
        promise30ClearBookmark();
        promise31SetBudget();
        promise32Listen();
        promise33Unlisten();
    }

    private static void throwing(String state, String call, String due, String... bad) {
        for (String argument : bad) {
            Script.run(state + call.replace("BAD", argument) + " ! " + due);
        }
    }

    private static void promise19Record() {
        Doc.says("Promise 19", "Begins to record a macro.");
        Script.each("""
            move 0; record 1; move 0; checkpoint; stop = 2; commands 1 = 2; commands 0 = 0; record 1; move 0; stop = 1; commands 1 = 1
            record 3; insert 'a'; stop = 1; commands 3 = 1; commands 1 = 1
            """);
        Doc.says("Promise 19", "- `macro`: 0 to 3", "Throws `IndexOutOfBoundsException` if there is no such macro");
        throwing("", "record BAD", "IOOBE", "-1", "4", "5", "MIN", "MAX");
        throwing("record 0; ", "record BAD", "IOOBE", "-1", "4", "5", "MIN", "MAX");
        Script.each("""
            record 0; stop; record 3; stop
            """);
        Doc.says("Promise 19", "Throws `IllegalStateException` if a macro is being recorded");
        Script.each("""
            record 0; record 0 ! ISE; record 1 ! ISE; move 0; record 3 ! ISE; stop = 1; commands 0 = 1; commands 1 = 0; record 1; record 0 ! ISE
            stop = 0
            """);
    }

    private static void promise20Stop() {
        Doc.says("Promise 20", "Ends recording.");
        Script.each("""
            record 2; insert 'a'; stop; insert 'b'; commands 2 = 1; stop ! ISE; run 2 1 = 1; text = "aba"; record 0; stop
            """);
        Doc.says("Promise 20", "Returns the number of commands of the macro.");
        Script.each("""
            record 0; stop = 0; record 0; move 0; stop = 1; record 0; repeat 16 "move 0"; stop = 16; record 0; undo ! ISE; pass 1; stop = 0
            commands 0 = 0
            """);
        Doc.says("Promise 20", "Throws `IllegalStateException` if no macro is being recorded");
        Script.each("""
            stop ! ISE; record 0; stop; stop ! ISE; commands 0 = 0
            """);
    }

    private static void promise21Open() {
        Doc.says("Promise 21", "Opens a group.");
        Script.each("""
            open; insert 'a'; setMark 0 left; nodes = 1; now = 0; text = "a"; markAt 0 = 1; lengthByReplay 0 = 0; markByReplay 0 0 = NONE
            close = 1; open; delete 1 ! ISE; move -1; delete 1; nodes = 2; replay 1 = "a"; text = ""
            """);
        Doc.says("Promise 21", "Throws `IllegalStateException` if a group is open");
        Script.each("""
            open; open ! ISE; insert 'a'; open ! ISE; close = 1; open; close = 1; open; open ! ISE
            """);
    }

    private static void promise22Close() {
        Doc.says("Promise 22", "Closes the group, and makes its change.");
        Script.each("""
            open; insert 'a'; insert 'b'; close; nodes = 2; stepsOf 1 = 2; replay 1 = "ab"; insert 'c'; nodes = 3; stepsOf 2 = 1; undo = 1
            open; close; nodes = 3; now = 1; undo = 0
            """);
        Doc.says("Promise 22", "Returns the current node then.");
        Script.each("""
            open; close = 0; insert 'a'; open; insert 'b'; close = 2; open; close = 2; undo; open; setMark 0 left; close = 3; parentOf 3 = 1
            """);
        Doc.says("Promise 22", "Throws `IllegalStateException` if no group is open,");
        Script.each("""
            close ! ISE; open; close; close ! ISE; insert 'a'; close ! ISE
            """);
        Doc.says("Promise 22", "or if listeners make a replacement at depth 8 (the group is still open then)");
        Script.each("""
            block "ab"; listen 0 'a' 'x' 0; listen 1 'x' 'a' 0; open; setMark 0 left; insert 'c'; close ! DEPTH; chain = "0 1 0 1 0 1 0 1"; open ! ISE
            undo ! ISE; walk 0 ! ISE; nodes = 2; text = "abc"; close ! DEPTH; insert 'd'; unlisten 0; close = 2; stepsOf 2 = 3; replay 2 = "abcd"
            close ! ISE

            # seven deep it is closed
            block "aaaaaaa"; listen 0 'a' 'x' 0; open; setMark 0 left; close = 2; stepsOf 2 = 8; close ! ISE

            # nothing to notify of
            block "ab"; listen 0 'a' 'x' 0; listen 1 'x' 'a' 0; open; move -1; close = 1; close ! ISE
            """);
    }

    private static void promise23Pass() {
        Doc.says("Promise 23", "Lets time pass.");
        Script.each("""
            insert 'a'; pass 4; insert 'b'; now = 2; pass 2; pass 1; insert 'c'; now = 2; pass 100; insert 'd'; now = 3

            type "ab"; to 1; pass 100; point = 1; nodes = 2; text = "ab"; open; pass 4; insert 'c'; pass 4; insert 'd'; close = 2; stepsOf 2 = 2
            """);
        Doc.says("Promise 23", "- `ticks`: 1 to 100", "Throws `IllegalArgumentException` if ticks is out of range");
        throwing("insert 'a'; ", "pass BAD", "IAE", "0", "-1", "101", "MIN", "MAX");
        Script.each("""
            pass 1; pass 100; pass 99; pass 2
            """);
    }

    private static void promise24Track() {
        Doc.says("Promise 24", "Tracks a store from now on.");
        Script.each("""
            block "abcd"; to 0; track 0; copy 0 1; now = 3; stepsOf 3 = 1; copy 1 1; now = 3; undo; entries 0 = 0; store 1 = "a"; redo; store 0 = "a"

            block "abcd"; to 0; track 4; kill 1; stepsOf 3 = 2; kill 2; undo; store 4 = "a"; undo; store 4 = ""; walk 4; store 4 = "bc|a"
            """);
        Doc.says("Promise 24", "Its present contents are set by a step, which makes a change, or belongs to the open group; so the store is empty "
                + "in the "
                + "states of all nodes made before.");
        Script.each("""
            block "abcd"; to 0; copy 0 2; kill 1; setMark 0 left; track 0; now = 4; stepsOf 4 = 1; storedByReplay 4 0 = 2; storedByReplay 3 0 = 0
            storedByReplay 1 0 = 0; storedByReplay 0 0 = 0; track 4; stepsOf 5 = 1; storedByReplay 5 4 = 1; storedByReplay 4 4 = 0
            storedByReplay 2 4 = 0
            walk 3; store 0 = ""; store 4 = ""; walk 4; store 0 = "ab"; store 4 = ""; walk 5; store 4 = "a"; track 3; stepsOf 6 = 1
            storedByReplay 6 3 = 0

            block "abcd"; to 0; copy 0 2; open; setMark 0 left; track 0; nodes = 2; storedByReplay 1 0 = 0; store 0 = "ab"; close = 2; stepsOf 2 = 2
            storedByReplay 2 0 = 2; undo; store 0 = ""; redo; store 0 = "ab"

            # the group's own earlier steps are ahead of it
            block "abcd"; to 0; open; kill 1; kill 1; track 4; kill 1; close = 2; stepsOf 2 = 5; storedByReplay 2 4 = 3; storedByReplay 1 4 = 0
            """);
        Doc.says("Promise 24", "- `store`: 0 to 4", "Throws `IndexOutOfBoundsException` if there is no such store");
        throwing("track 0; ", "track BAD", "IOOBE", NOT_0_TO_4);
        Script.each("""
            track 0; track 4; track 3; now = 3
            """);
        Doc.says("Promise 24", "Throws `IllegalStateException` if it is tracked,");
        Script.each("""
            track 0; track 0 ! ISE; walk 0; track 0 ! ISE; open; track 0 ! ISE; track 1; track 1 ! ISE; close; track 1 ! ISE; track 4; track 4 ! ISE
            track 2
            """);
        Doc.says("Promise 24", "or if listeners make a replacement at depth 8");
        Script.each("""
            block "ab"; to 0; copy 0 1; listen 0 'a' 'x' 0; listen 1 'x' 'a' 0; track 0 ! DEPTH; track 4 ! DEPTH; copy 0 2; now = 1; open; track 0
            close ! DEPTH
            unlisten 1; track 0 ! ISE; close = 2; stepsOf 2 = 2; text = "xb"; storedByReplay 2 0 = 2
            """);
    }

    private static void promise25Undo() {
        Doc.says("Promise 25", "Walks to the parent of the current node.");
        Script.each("""
            type "a-"; walk 1; insert 'b'; text = "ab"; undo; now = 1; text = "a"; point = 1; walk 2; undo; now = 1; undo; now = 0; text = ""

            # of a node whose parent was merged
            type "a-b"; setBudget 3; undo = 2; undo = 0
            """);
        Doc.says("Promise 25", "Returns the current node then.");
        Script.each("""
            type "a-b"; undo = 2; undo = 1; undo = 0; walk 3; undo = 2
            """);
        Doc.says("Promise 25", "Throws `IllegalStateException` if a group is open,");
        Script.each("""
            insert 'a'; open; undo ! ISE; insert 'b'; undo ! ISE; close = 2; undo = 1; undo = 0; open; undo ! ISE
            """);
        Doc.says("Promise 25", "or if the current node is the root");
        Script.each("""
            undo ! ISE; insert 'a'; undo = 0; undo ! ISE; walk 0; undo ! ISE; redo = 1; undo = 0
            """);
    }

    private static void promise26Redo() {
        Doc.says("Promise 26", "Walks to the child of the current node with the greatest number.");
        Script.each("""
            insert 'a'; undo; insert 'b'; undo; insert 'c'; walk 2; insert '-'; walk 0; redo; now = 3; text = "c"; walk 2; redo; now = 4; text = "b-"
            point = 2
            walk 0; redo = 3

            # the child of a node that was merged: 3 is merged into 4, which then is the greatest
            type "a-"; walk 1; type "b-"; walk 2; setBudget 4 = 1; walk 1; redo = 4; text = "ab-"
            """);
        Doc.says("Promise 26", "Returns the current node then.");
        Script.each("""
            type "a-b"; walk 0; redo = 1; redo = 2; redo = 3
            """);
        Doc.says("Promise 26", "Throws `IllegalStateException` if a group is open,");
        Script.each("""
            type "a-"; undo; open; redo ! ISE; setMark 0 left; redo ! ISE; close = 3; undo; redo = 3
            """);
        Doc.says("Promise 26", "or if the current node has no child");
        Script.each("""
            redo ! ISE; insert 'a'; redo ! ISE; insert '-'; undo; redo = 2; redo ! ISE; walk 0; walk 2; redo ! ISE
            """);
    }

    private static void promise27Walk() {
        Doc.says("Promise 27", "Walks to a node.");
        Script.each("""
            type "a-"; walk 1; insert 'b'; walk 2; now = 2; text = "a-"; point = 2; walk 3; now = 3; text = "ab"; walk 0; now = 0; text = ""
            nodes = 4
            """);
        Doc.says("Promise 27", "- `node`: a node; it may be the current one");
        Script.each("""
            walk 0 = 0; insert 'a'; walk 1 = 0; walk 0; walk 0 = 0; walk 1; to 0; walk 1 = 0; point = 1
            """);
        Doc.says("Promise 27", "Returns the number of changes that are undone and done on the way by the nearest common ancestor.");
        // 0 - 1 - 2 - 3 and 1 - 4 - 5 and 0 - 6
        String tree = "type \"a-b\"; walk 1; type \"c-\"; walk 0; insert 'd'; now = 6; walk 0; ";
        int[][] ways = {{0, 0, 0}, {0, 1, 1}, {0, 3, 3}, {0, 5, 3}, {0, 6, 1}, {1, 3, 2}, {1, 5, 2}, {2, 3, 1}, {2, 4, 2}, {2, 5, 3}, {3, 4, 3}, {3,
                5, 4},
            {3, 6, 4}, {4, 5, 1}, {5, 6, 4}, {1, 6, 2}, {3, 3, 0}, {6, 6, 0}};
        for (int[] way : ways) {
            Script.run(tree + "walk " + way[0] + "; walk " + way[1] + " = " + way[2] + "; walk " + way[0] + " = " + way[2]);
        }
        // 2 is merged into 3, 4 into 5
        Script.run(tree + "walk 0; setBudget 5 = 2; walk 3 = 2; walk 5 = 2; walk 1 = 1; walk 6 = 2");
        Doc.says("Promise 27", "Throws `IndexOutOfBoundsException` if there is no such node");
        throwing("type \"a-b-\"; setBudget 4; ", "walk BAD", "IOOBE", "-1", "1", "5", "6", "600", "MIN", "MAX");
        throwing("type \"a-b-\"; setBudget 4; open; ", "walk BAD", "IOOBE", "-1", "1", "5");
        Script.each("""
            type "a-b-"; setBudget 4; walk 2 = 2; walk 0; walk 4; undo = 3
            """);
        Doc.says("Promise 27", "Throws `IllegalStateException` if a group is open");
        Script.each("""
            type "a-"; open; walk 0 ! ISE; walk 1 ! ISE; walk 2 ! ISE; insert 'b'; walk 2 ! ISE; close; walk 1 = 2
            """);
    }

    private static void promise28UndoIn() {
        Doc.says("Promise 28", "Undoes the latest change in a region, as described for undo within a region, whatever the current view is.");
        Script.each("""
            block "0123456789"; to 2; insert 'a'; to 8; insert 'b'; to 5; setMark 0 left; to 6; narrow 0; view = "5 6"
            undoIn 2 2 = 5; text = "0123456b789"; view = "4 5"; undoIn 7 7 = 6; text = "0123456789"; view = "4 5"; widen = 0

            block "0123456789"; to 2; insert 'a'; to 8; insert 'b'; undoIn 0 12 = 4; text = "01a23456789"
            """);
        Doc.says("Promise 28", "- `from`: 0 to the length of the text", "- `to`: from to the length of the text",
                "Throws `IllegalArgumentException` if from or to is out of range");
        for (String bad : new String[] {"-1 0", "-1 -1", "0 -1", "4 4", "0 4", "3 4", "4 3", "1 0", "3 2", "MIN 0", "0 MIN", "0 MAX", "MAX MAX",
                "-1 4"}) {
            Script.run("type \"abc\"; undoIn " + bad + " ! IAE");
            Script.run("type \"abc\"; open; undoIn " + bad + " ! IAE");
        }
        for (String good : new String[] {"0 0", "0 3", "3 3", "1 1", "1 2"}) {
            Script.run("type \"abc\"; undoIn " + good + " = 2; text = \"\"");
        }
        Script.each("""
            type "abc"; undo; undoIn 0 1 ! IAE; undoIn 0 0 ! ISE
            """);
        Doc.says("Promise 28", "Returns the new node.");
        Script.each("""
            type "ab"; undoIn 0 2 = 2; now = 2; parentOf 2 = 1; undo; setMark 0 left; undoIn 1 1 = 4; now = 4; parentOf 4 = 3; nodes = 5
            """);
    }

    private static void promise28UndoInThrows() {
        Doc.says("Promise 28", "Throws `IllegalStateException` if a group is open,");
        Script.each("""
            type "ab"; open; undoIn 0 2 ! ISE; insert 'c'; undoIn 0 3 ! ISE; close; undoIn 0 1 = 3; text = "c"
            """);
        Doc.says("Promise 28", "if no node is found,");
        Script.each("""
            undoIn 0 0 ! ISE; setMark 0 left; undoIn 0 0 ! ISE; block "123456789"; undoIn 0 9 ! ISE; insert 'a'; undoIn 0 8 ! ISE; undoIn 9 9 = 4
            undoIn 0 9 ! ISE
            """);
        Doc.says("Promise 28", "if the text would have more than 400 characters behind one of the opposites,");
        Script.each("""
            full; to 400; move -20; delete 20; to 0; insert 'x'; length = 381; undoIn 381 381 ! ISE; delete 1 = 380; undoIn 380 380 = 6; length = 400

            full; to 0; delete 1; to 399; insert 'x'; length = 400; undoIn 0 0 ! ISE; undoIn 400 400 = 5; length = 399; undoIn 0 0 = 6; length = 400

            # behind the first of two opposites there are 400, behind the second 401; then 399 and 400
            full; to 10; open; delete 1; to 5; delete 1; close = 3; to 300; insert 'x'; length = 399; undoIn 5 5 ! ISE; delete 1 = 398; undoIn 5 5 = 6
            length = 400

            # in the end there would be 400, but 401 in between
            full; to 0; delete 1; to 100; open; insert 'x'; to 5; delete 1; close = 4; to 300; insert 'y'; length = 400; undoIn 5 5 ! ISE
            """);
        Doc.says("Promise 28", "or if listeners make a replacement at depth 8");
        Script.each("""
            block "0123456789"; to 5; insert 'x'; listen 0 '3' '!' 0; listen 1 '!' '3' 0; undoIn 5 5 ! DEPTH; chain = "0 1 0 1 0 1 0 1"; unlisten 1
            undoIn 5 5 = 3; stepsOf 3 = 2; text = "012!456789"

            # what comes back is what they look for
            block "012a456789"; to 3; delete 1; listen 0 'a' 'b' 0; listen 1 'b' 'a' 0; undoIn 3 3 ! DEPTH; unlisten 0; undoIn 3 3 = 3
            """);
    }

    private static void promise29SetBookmark() {
        Doc.says("Promise 29", "Sets a bookmark to the current node.");
        Script.each("""
            type "a-"; setBookmark 0; bookmarkAt 0 = 2; undo; setBookmark 4; bookmarkAt 4 = 1; bookmarkAt 0 = 2; walk 0; setBookmark 0
            bookmarkAt 0 = 0
            open; insert 'x'; setBookmark 1; bookmarkAt 1 = 0; nodes = 3
            """);
        Doc.says("Promise 29", "- `bookmark`: 0 to 4", "Throws `IndexOutOfBoundsException` if there is no such bookmark");
        throwing("insert 'a'; ", "setBookmark BAD", "IOOBE", NOT_0_TO_4);
        Script.each("""
            setBookmark 0 = NONE; setBookmark 4 = NONE; setBookmark 2 = NONE
            """);
        Doc.says("Promise 29", "Returns the node that it was set to; NONE if it was not set.");
        Script.each("""
            setBookmark 0 = NONE; setBookmark 0 = 0; insert 'a'; setBookmark 0 = 0; setBookmark 0 = 1; setBookmark 1 = NONE; clearBookmark 0 = 1
            setBookmark 0 = NONE
            """);
    }

    private static void promise30ClearBookmark() {
        Doc.says("Promise 30", "Removes a bookmark.");
        Script.each("""
            insert 'a'; setBookmark 0; setBookmark 1; clearBookmark 0; bookmarkAt 0 = NONE; bookmarkAt 1 = 1; insert '-'; setBudget 2 = 0; nodes = 3
            clearBookmark 1; nodes = 3; setBudget 2 = 1
            """);
        Doc.says("Promise 30", "- `bookmark`: 0 to 4", "Throws `IndexOutOfBoundsException` if there is no such bookmark");
        throwing("setBookmark 0; setBookmark 4; ", "clearBookmark BAD", "IOOBE", NOT_0_TO_4);
        Script.each("""
            setBookmark 0; setBookmark 4; clearBookmark 0 = 0; clearBookmark 4 = 0
            """);
        Doc.says("Promise 30", "Returns the node that it was set to; NONE if it was not set.");
        Script.each("""
            clearBookmark 0 = NONE; setBookmark 0; clearBookmark 0 = 0; clearBookmark 0 = NONE; insert 'a'; setBookmark 3; undo; clearBookmark 3 = 1
            """);
    }

    private static void promise31SetBudget() {
        Doc.says("Promise 31", "Sets the budget.");
        Script.each("""
            type "a-b"; setBudget 4; insert '-'; nodes = 4; setBudget 5; insert 'c'; nodes = 5; insert '-'; nodes = 5; setBudget 600; insert 'd'
            nodes = 6
            """);
        Doc.says("Promise 31", "- `nodes`: 2 to 600", "Throws `IllegalArgumentException` if nodes is out of range");
        throwing("type \"a-b\"; ", "setBudget BAD", "IAE", "1", "0", "-1", "601", "602", "MIN", "MAX");
        Script.each("""
            type "a-b"; setBudget 600 = 0; setBudget 599 = 0; setBudget 3 = 1; setBudget 2 = 1; nodes = 2
            """);
        Doc.says("Promise 31", "Returns the number of nodes that are merged.");
        Script.each("""
            setBudget 2 = 0; setBudget 600; type "a-b-c-"; setBudget 7 = 0; setBudget 6 = 1; setBudget 3 = 3; setBudget 2 = 1; setBudget 2 = 0

            type "a-b-c-"; setBudget 2 = 5; nodes = 2

            type "a-b-c-"; walk 3; setBudget 2 = 4; nodes = 3
            """);
    }

    private static void promise32Listen() {
        Doc.says("Promise 32", "Activates a listener, or changes an active one.");
        Script.each("""
            listen 0 'a' 'b' 5; insert 'a'; text = "b"; listen 0 'c' 'd' 5; insert 'c'; insert 'a'; text = "bda"; listen 0 'a' 'e' 5; setMark 0 left
            text = "bde"; unlisten 0 = true; unlisten 0 = false; listen 0 'd' 'f' 0; setMark 0 left; text = "bfe"

            listen 0 'a' 'b' 5; listen 1 'a' 'c' 6; insert 'a'; text = "b"; listen 0 'a' 'b' 7; insert 'a'; text = "bc"
            """);
        Doc.says("Promise 32", "It is not notified by this.");
        Script.each("""
            insert 'a'; listen 0 'a' 'b' 0; text = "a"; nodes = 2; listen 1 'a' 'c' 0; text = "a"; listen 0 'a' 'd' 0; text = "a"; setMark 0 left
            text = "d"
            """);
        Doc.says("Promise 32", "- `listener`: 0 to 2", "Throws `IndexOutOfBoundsException` if there is no such listener");
        throwing("insert 'a'; ", "listen BAD 'a' 'b' 0", "IOOBE", "-1", "3", "4", "MIN", "MAX");
        throwing("insert 'a'; ", "listen BAD 9 9 10", "IOOBE", "-1", "3");
        Script.each("""
            listen 0 'a' 'b' 0; listen 2 'b' 'c' 0; insert 'a'; text = "c"
            """);
        Doc.says("Promise 32", "- `from`: the character that it looks for, 10 or 32 to 126", "- `to`: its other character, 10 or 32 to 126, not from",
                "- `rank`: 0 to 9", "Throws `IllegalArgumentException` if from, to or rank is out of range,");
        String[] bad = {"9", "11", "31", "127", "0", "-1", "-10", "MIN", "MAX"};
        throwing("insert 'a'; ", "listen 0 BAD 'b' 0", "IAE", bad);
        throwing("insert 'a'; ", "listen 0 'a' BAD 0", "IAE", bad);
        throwing("insert 'a'; ", "listen 0 'a' 'b' BAD", "IAE", "-1", "10", "11", "MIN", "MAX");
        Script.each("""
            listen 0 10 32 0; insert 10; charAt 0 = 32; listen 0 32 10 9; setMark 0 left; charAt 0 = 10; listen 0 10 126 0; setMark 0 left
            charAt 0 = 126
            listen 0 126 10 0; setMark 0 left; charAt 0 = 10
            """);
        Doc.says("Promise 32", "or if from is to");
        throwing("insert 'a'; ", "listen 0 BAD BAD 0", "IAE", "'a'", "10", "32", "126", "9");
        throwing("listen 0 'a' 'b' 0; ", "listen 0 BAD BAD 0", "IAE", "'a'", "'b'");
    }

    private static void promise33Unlisten() {
        Doc.says("Promise 33", "Deactivates a listener, if it is active.");
        Script.each("""
            listen 0 'a' 'b' 0; listen 1 'a' 'c' 1; unlisten 0; insert 'a'; text = "c"; unlisten 1; insert 'a'; text = "ca"; unlisten 1; insert 'a'
            text = "caa"; listen 0 'a' 'd' 0; insert '-'; text = "cdd-"
            """);
        Doc.says("Promise 33", "- `listener`: 0 to 2", "Throws `IndexOutOfBoundsException` if there is no such listener");
        throwing("listen 2 'a' 'b' 0; ", "unlisten BAD", "IOOBE", "-1", "3", "4", "MIN", "MAX");
        Doc.says("Promise 33", "Returns true if it was active.");
        Script.each("""
            unlisten 0 = false; listen 0 'a' 'b' 0; unlisten 1 = false; unlisten 2 = false; unlisten 0 = true; unlisten 0 = false; listen 2 'a' 'b' 0
            listen 2 'c' 'd' 0; unlisten 2 = true; unlisten 2 = false
            """);
    }
}
