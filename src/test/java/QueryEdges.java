/** The sentences of the promises 34 to 59: the queries. */
final class QueryEdges {
    // nodes 1 and 2 are merged into 3
    private static final String MERGED = "type \"a-b-\"; setBudget 3 = 2\n";
    private static final String[] NO_NODES = {"-1", "1", "2", "5", "6", "600", "MIN", "MAX"};
    private static final String NO_NODE = "Throws `IndexOutOfBoundsException` if there is no such node";

    private QueryEdges() {
    }

    static void all() {
        promise34Length();
        promise35CharAt();
        promise36Point();
        promise37Lines();
        promise38LineOf();
        promise39LineStart();
        promise40MarkAt();
        promise41ViewStart();
        promise42ViewEnd();
        promise43Now();
        promise44Nodes();
        promise45ParentOf();
        promise46NewestChild();
        promise47StepsOf();
        promise48BookmarkAt();
        promise49LengthByReplay();
        promise50CharByReplay();
        promise51MarkByReplay();
        promise52StoredByReplay();
        promise53Entries();
        promise54EntryLength();
        promise55EntryChar();
        promise56Commands();
        promise57FailureReason();
        promise58FailureCommand();
        promise59ListenerChain();
    }

    private static void throwing(String state, String query, String... bad) {
        Ed x = Script.run(state);
        for (String argument : bad) {
            Script.on(x, query.replace("BAD", argument) + " ! IOOBE");
        }
    }

    private static void promise34Length() {
        Doc.says("Promise 34", "Returns the length of the text.");
        Script.each("""
            length = 0; insert 'a'; length = 1; type "bc"; length = 3; setMark 0 left; narrow 0; length = 3; delete 1 ! ISE; widen; to 0; delete 2
            length = 1
            undo; length = 3; open; insert 'x'; length = 4

            full; length = 400; delete 1 ! ISE; to 0; delete 20; length = 380
            """);
    }

    private static void promise35CharAt() {
        Doc.says("Promise 35", "Returns a character of the text.");
        Script.each("""
            insert 10; type "a~ "; charAt 0 = 10; charAt 1 = 'a'; charAt 2 = 126; charAt 3 = 32; setMark 0 left; narrow 0; charAt 0 = 10; undo
            charAt 3 = 32
            open; to 0; overwrite 'x'; charAt 0 = 'x'
            """);
        Doc.says("Promise 35", "- `index`: 0 to the length of the text - 1", "Throws `IndexOutOfBoundsException` if there is no such index");
        throwing("block \"abc\"", "charAt BAD", "-1", "3", "4", "400", "MIN", "MAX");
        throwing("block \"abc\"; to 2; delete 1", "charAt BAD", "2", "3");
        throwing("full", "charAt BAD", "400", "401", "-1");
        throwing("", "charAt BAD", "0", "-1", "1");
        Script.each("""
            block "abc"; charAt 0 = 'a'; charAt 2 = 'c'

            full; charAt 0 = 'a'; charAt 399 = 't'
            """);
    }

    private static void promise36Point() {
        Doc.says("Promise 36", "Returns the point.");
        Script.each("""
            point = 0; type "abc"; point = 3; move -2; point = 1; delete 1; point = 1; insert 'x'; point = 2; overwrite 'y'; point = 3; undo
            point = 2; walk 0
            point = 0
            """);
    }

    private static void promise37Lines() {
        Doc.says("Promise 37", "Returns the number of lines.");
        Script.each("""
            lines = 1; type "ab"; lines = 1; insert 10; lines = 2; insert 10; lines = 3; insert 'a'; lines = 3; setMark 0 left; narrow 0; lines = 3
            widen
            to 2; delete 1; lines = 2; undo; lines = 3; walk 0; lines = 1
            """);
    }

    private static void promise38LineOf() {
        Doc.says("Promise 38", "Returns the line in which a place is: the number of line feeds ahead of it.");
        Script.each("""
            type "ab"; insert 10; insert 10; type "c"; insert 10; length = 6
            lineOf 0 = 0; lineOf 1 = 0; lineOf 2 = 0; lineOf 3 = 1; lineOf 4 = 2; lineOf 5 = 2; lineOf 6 = 3
            """);
        Doc.says("Promise 38", "- `place`: 0 to the length of the text", "Throws `IndexOutOfBoundsException` if there is no such place");
        throwing("block \"abc\"", "lineOf BAD", "-1", "4", "5", "400", "MIN", "MAX");
        throwing("", "lineOf BAD", "-1", "1");
        throwing("full", "lineOf BAD", "401", "-1");
        Script.each("""
            lineOf 0 = 0; block "abc"; lineOf 0 = 0; lineOf 3 = 0

            full; lineOf 400 = 0; to 399; overwrite 10; lineOf 399 = 0; lineOf 400 = 1
            """);
    }

    private static void promise39LineStart() {
        Doc.says("Promise 39", "Returns the place at which a line begins.");
        Script.each("""
            lineStart 0 = 0; type "ab"; insert 10; insert 10; type "c"; insert 10; lineStart 0 = 0; lineStart 1 = 3; lineStart 2 = 4; lineStart 3 = 6
            """);
        Doc.says("Promise 39", "- `line`: 0 to lines() - 1", "Throws `IndexOutOfBoundsException` if there is no such line");
        throwing("insert 10; insert 'a'; insert 10", "lineStart BAD", "-1", "3", "4", "MIN", "MAX");
        throwing("", "lineStart BAD", "-1", "1");
        Script.each("""
            insert 10; insert 'a'; insert 10; lines = 3; lineStart 2 = 3; lineStart 0 = 0
            """);
    }

    private static void promise40MarkAt() {
        Doc.says("Promise 40", "Returns where a mark is.", "Returns its place; NONE if it is unset.");
        Script.each("""
            markAt 0 = NONE; markAt 5 = NONE; type "ab"; setMark 0 left; markAt 0 = 2; to 0; setMark 5 right; markAt 5 = 0; insert 'x'; markAt 0 = 3
            markAt 5 = 1; clearMark 0; markAt 0 = NONE; undo; markAt 0 = 3; walk 0; markAt 0 = NONE; markAt 5 = NONE
            """);
        Doc.says("Promise 40", "- `mark`: 0 to 5", "Throws `IndexOutOfBoundsException` if there is no such mark");
        throwing("setMark 0 left; setMark 5 left", "markAt BAD", "-1", "6", "7", "MIN", "MAX");
    }

    private static void promise41ViewStart() {
        Doc.says("Promise 41", "Returns the start of the current view.");
        Script.each("""
            viewStart = 0; block "abcdef"; viewStart = 0; to 2; setMark 0 left; to 5; narrow 0; viewStart = 2; to 4; setMark 1 left; to 5; narrow 1
            viewStart = 4; widen; viewStart = 2; widen; viewStart = 0; to 3; narrow 0; insert 'x'; viewStart = 2; walk 1; viewStart = 0
            """);
    }

    private static void promise42ViewEnd() {
        Doc.says("Promise 42", "Returns the end of the current view.");
        Script.each("""
            viewEnd = 0; block "abcdef"; viewEnd = 6; to 2; setMark 0 left; to 5; narrow 0; viewEnd = 5; to 4; narrow 0; viewEnd = 4; insert 'x'
            viewEnd = 5
            widen; viewEnd = 6; widen; viewEnd = 7; delete 1; viewEnd = 6; walk 0; viewEnd = 0
            """);
    }

    private static void promise43Now() {
        Doc.says("Promise 43", "Returns the current node.");
        Script.each("""
            now = 0; insert 'a'; now = 1; insert '-'; now = 2; undo; now = 1; setMark 0 left; now = 3; walk 2; now = 2; open; insert 'x'; now = 2
            close; now = 4
            """);
    }

    private static void promise44Nodes() {
        Doc.says("Promise 44", "Returns the number of nodes, the root included.");
        Script.each("""
            nodes = 1; insert 'a'; nodes = 2; undo; nodes = 2; insert 'b'; nodes = 3; insert '-'; nodes = 4; open; insert 'x'; nodes = 4; close
            nodes = 5
            setBudget 4; nodes = 4
            """);
    }

    private static void promise45ParentOf() {
        Doc.says("Promise 45", "Returns the parent of a node.", "Returns the parent; NONE for the root.");
        Script.each("""
            parentOf 0 = NONE; type "a-"; walk 1; insert 'b'; walk 0; insert 'c'; parentOf 0 = NONE; parentOf 1 = 0; parentOf 2 = 1; parentOf 3 = 1
            parentOf 4 = 0
            """);
        Doc.says("Promise 45", "- `node`: a node", NO_NODE);
        throwing(MERGED, "parentOf BAD", NO_NODES);
        Script.run(MERGED + "parentOf 0 = NONE; parentOf 3 = 0; parentOf 4 = 3");
    }

    private static void promise46NewestChild() {
        Doc.says("Promise 46", "Returns the child of a node with the greatest number.", "Returns the child; NONE if it has none.");
        Script.each("""
            newestChild 0 = NONE; type "a-"; walk 1; insert 'b'; walk 0; insert 'c'; walk 2; insert 'd'; newestChild 0 = 4; newestChild 1 = 3
            newestChild 2 = 5
            newestChild 3 = NONE; newestChild 4 = NONE; newestChild 5 = NONE
            """);
        Doc.says("Promise 46", "- `node`: a node", NO_NODE);
        throwing(MERGED, "newestChild BAD", NO_NODES);
        Script.run(MERGED + "newestChild 0 = 3; newestChild 3 = 4; newestChild 4 = NONE");
    }

    private static void promise47StepsOf() {
        Doc.says("Promise 47", "Returns the number of steps of the change of a node.", "Returns the number; 0 for the root.");
        Script.each("""
            stepsOf 0 = 0; type "abc"; stepsOf 1 = 1; open; insert 'x'; insert 'y'; setMark 0 left; stepsOf 1 = 1; close; stepsOf 2 = 3
            stepsOf 0 = 0; setBudget 2
            stepsOf 2 = 4; stepsOf 0 = 0
            """);
        Doc.says("Promise 47", "- `node`: a node", NO_NODE);
        throwing(MERGED, "stepsOf BAD", NO_NODES);
        Script.run(MERGED + "stepsOf 0 = 0; stepsOf 3 = 3; stepsOf 4 = 1");
    }

    private static void promise48BookmarkAt() {
        Doc.says("Promise 48", "Returns the node to which a bookmark is set.", "Returns the node; NONE if it is not set.");
        Script.each("""
            bookmarkAt 0 = NONE; bookmarkAt 4 = NONE; setBookmark 0; bookmarkAt 0 = 0; insert 'a'; setBookmark 4; bookmarkAt 4 = 1
            bookmarkAt 1 = NONE
            clearBookmark 0; bookmarkAt 0 = NONE; undo; bookmarkAt 4 = 1
            """);
        Doc.says("Promise 48", "- `bookmark`: 0 to 4", "Throws `IndexOutOfBoundsException` if there is no such bookmark");
        throwing("setBookmark 0; setBookmark 4", "bookmarkAt BAD", "-1", "5", "6", "MIN", "MAX");
    }

    private static void promise49LengthByReplay() {
        Doc.says("Promise 49", "Returns the length of the text of the state of a node, found by replaying the path from the root.");
        Script.each("""
            lengthByReplay 0 = 0; type "abc"; to 1; delete 1; walk 1; insert '!'; undo; lengthByReplay 0 = 0; lengthByReplay 1 = 3
            lengthByReplay 2 = 2
            lengthByReplay 3 = 4; open; insert 'x'; lengthByReplay 1 = 3

            full; lengthByReplay 2 = 400; lengthByReplay 1 = 20; lengthByReplay 0 = 0
            """);
        Doc.says("Promise 49", "- `node`: a node", NO_NODE);
        throwing(MERGED, "lengthByReplay BAD", NO_NODES);
        Script.run(MERGED + "lengthByReplay 0 = 0; lengthByReplay 3 = 3; lengthByReplay 4 = 4");
    }

    private static void promise50CharByReplay() {
        Doc.says("Promise 50", "Returns a character of the text of the state of a node, found by replaying the path from the root.");
        Script.each("""
            type "abc"; to 1; overwrite 10; walk 1; to 1; insert 'x'; walk 0; replay 1 = "abc"; charByReplay 2 1 = 10; charByReplay 2 2 = 'c'
            charByReplay 3 1 = 'x'
            charByReplay 3 3 = 'c'; walk 2; charByReplay 3 1 = 'x'; charByReplay 1 1 = 'b'
            """);
        Doc.says("Promise 50", "- `node`: a node", "- `index`: 0 to lengthByReplay(node) - 1", "Throws `IndexOutOfBoundsException` if there is no "
                + "such node or index");
        throwing(MERGED, "charByReplay BAD 0", NO_NODES);
        throwing(MERGED, "charByReplay 3 BAD", "-1", "3", "4", "MIN", "MAX");
        throwing(MERGED, "charByReplay 4 BAD", "-1", "4", "5", "400");
        throwing(MERGED, "charByReplay 0 BAD", "0", "-1", "1");
        Script.run(MERGED + "charByReplay 3 0 = 'a'; charByReplay 3 2 = 'b'; charByReplay 4 3 = '-'");
        Script.run("full; charByReplay 2 399 = 't'; charByReplay 2 400 ! IOOBE; charByReplay 1 19 = 't'; charByReplay 1 20 ! IOOBE");
    }

    private static void promise51MarkByReplay() {
        Doc.says("Promise 51", "Returns where a mark is in the state of a node, found by replaying the path from the root.",
                "Returns its place; NONE if it is unset.");
        Script.each("""
            type "ab"; setMark 0 left; to 0; setMark 5 right; insert 'x'; clearMark 0; undo; markByReplay 0 0 = NONE; markByReplay 1 0 = NONE
            markByReplay 2 0 = 2
            markByReplay 2 5 = NONE; markByReplay 3 5 = 0; markByReplay 4 5 = 1; markByReplay 4 0 = 3; markByReplay 5 0 = NONE; markByReplay 5 5 = 1
            open; clearMark 5; markByReplay 4 5 = 1
            """);
        Doc.says("Promise 51", "- `node`: a node", "- `mark`: 0 to 5", "Throws `IndexOutOfBoundsException` if there is no such node or mark");
        throwing(MERGED, "markByReplay BAD 0", NO_NODES);
        throwing(MERGED, "markByReplay 3 BAD", "-1", "6", "7", "MIN", "MAX");
        throwing(MERGED, "markByReplay 0 BAD", "-1", "6");
        Script.run(MERGED + "markByReplay 3 0 = NONE; markByReplay 0 5 = NONE");
    }

    private static void promise52StoredByReplay() {
        Doc.says("Promise 52", "Returns how many characters all entries of a store have together in the state of a node, found by replaying the "
                + "path from the root.",
                "Returns the number; 0 if the store is not tracked.");
        Script.each("""
            block "abcdefghijklmnopqrstuvwxyz"; to 0; copy 0 20; kill 2; storedByReplay 2 0 = 0; storedByReplay 2 4 = 0; track 0; track 4; kill 3
            kill 1; kill 4
            storedByReplay 3 0 = 20; storedByReplay 3 4 = 0; storedByReplay 4 4 = 2; storedByReplay 5 4 = 5; storedByReplay 6 4 = 6
            storedByReplay 7 4 = 10
            kill 6; storedByReplay 8 4 = 14; copy 0 1; storedByReplay 9 0 = 1; storedByReplay 9 1 = 0; copy 1 1; storedByReplay 9 1 = 0; rotate
            storedByReplay 10 4 = 14
            walk 0; storedByReplay 10 4 = 14; storedByReplay 0 4 = 0; storedByReplay 0 0 = 0; open; copy 0 1 ! ISE; storedByReplay 9 0 = 1
            """);
        Doc.says("Promise 52", "- `node`: a node", "- `store`: 0 to 4", "Throws `IndexOutOfBoundsException` if there is no such node or store");
        throwing(MERGED, "storedByReplay BAD 0", NO_NODES);
        throwing(MERGED, "storedByReplay 3 BAD", "-1", "5", "6", "MIN", "MAX");
        throwing(MERGED, "storedByReplay 0 BAD", "-1", "5");
        Script.run(MERGED + "storedByReplay 3 0 = 0; storedByReplay 0 4 = 0; storedByReplay 4 3 = 0");
    }

    private static void promise53Entries() {
        Doc.says("Promise 53", "Returns the number of entries of a store.", "Returns 0 or 1 for a register, 0 to 4 for the kill ring.");
        Script.each("""
            entries 0 = 0; entries 3 = 0; entries 4 = 0; block "abcdefgh"; to 0; copy 0 1; entries 0 = 1; copy 0 2; entries 0 = 1; copy 3 1
            entries 3 = 1
            entries 1 = 0; entries 4 = 0; kill 1; entries 4 = 1; kill 1; entries 4 = 2; kill 1; entries 4 = 3; kill 1; entries 4 = 4; kill 1
            entries 4 = 4
            track 0; track 4; undo; undo; entries 0 = 0; entries 4 = 0
            """);
        Doc.says("Promise 53", "- `store`: 0 to 4", "Throws `IndexOutOfBoundsException` if there is no such store");
        throwing("block \"ab\"; to 0; copy 3 1; kill 1", "entries BAD", "-1", "5", "6", "MIN", "MAX");
    }

    private static final String STORED = "block \"abcdefghijklmnopqrstuvwxyz\"; to 0; copy 3 20; kill 1; kill 2; kill 20; move 0\n";

    private static void promise54EntryLength() {
        Doc.says("Promise 54", "Returns the length of an entry of a store.", "Returns 1 to 20.");
        Script.run(STORED + "entryLength 3 0 = 20; entryLength 4 0 = 20; entryLength 4 1 = 2; entryLength 4 2 = 1; copy 3 1; entryLength 3 0 = 1; "
                + "kill 1; entryLength 4 3 = 1");
        Doc.says("Promise 54", "- `store`: 0 to 4", "- `entry`: 0 to entries(store) - 1", "Throws `IndexOutOfBoundsException` if there is no such "
                + "store or entry");
        throwing(STORED, "entryLength BAD 0", "-1", "5", "6", "MIN", "MAX", "0", "2");
        throwing(STORED, "entryLength 4 BAD", "-1", "3", "4", "MIN", "MAX");
        throwing(STORED, "entryLength 3 BAD", "-1", "1", "2", "MIN", "MAX");
        throwing(STORED, "entryLength 0 BAD", "0", "-1", "1");
        throwing(STORED + "kill 1; kill 1", "entryLength 4 BAD", "4", "5", "-1");
        throwing("", "entryLength 4 BAD", "0", "-1");
    }

    private static void promise55EntryChar() {
        Doc.says("Promise 55", "Returns a character of an entry of a store.");
        Script.run(STORED + "entryChar 3 0 0 = 'a'; entryChar 3 0 19 = 't'; entryChar 4 0 0 = 'd'; entryChar 4 0 19 = 'w'; entryChar 4 1 1 = 'c'; "
                + "entryChar 4 2 0 = 'a'");
        Doc.says("Promise 55", "- `store`: 0 to 4", "- `entry`: 0 to entries(store) - 1", "- `index`: 0 to entryLength(store, entry) - 1",
                "Throws `IndexOutOfBoundsException` if there is no such store, entry or index");
        throwing(STORED, "entryChar BAD 0 0", "-1", "5", "6", "MIN", "MAX", "0", "2");
        throwing(STORED, "entryChar 4 BAD 0", "-1", "3", "4", "MIN", "MAX");
        throwing(STORED, "entryChar 3 BAD 0", "-1", "1", "MIN", "MAX");
        throwing(STORED, "entryChar 4 0 BAD", "-1", "20", "21", "MIN", "MAX");
        throwing(STORED, "entryChar 4 1 BAD", "-1", "2", "3");
        throwing(STORED, "entryChar 4 2 BAD", "-1", "1");
        throwing(STORED, "entryChar 3 0 BAD", "-1", "20");
        throwing("", "entryChar 4 0 BAD", "0", "-1");
    }

    private static void promise56Commands() {
        Doc.says("Promise 56", "Returns the number of commands of a macro.");
        Script.each("""
            commands 0 = 0; commands 3 = 0; record 0; move 0; move 0; commands 0 = 0; stop; commands 0 = 2; record 3; repeat 16 "move 0"; stop
            commands 3 = 16
            commands 1 = 0; record 0; commands 0 = 2; stop; commands 0 = 0
            """);
        Doc.says("Promise 56", "- `macro`: 0 to 3", "Throws `IndexOutOfBoundsException` if there is no such macro");
        throwing("record 0; move 0; stop", "commands BAD", "-1", "4", "5", "MIN", "MAX");
    }

    private static void promise57FailureReason() {
        Doc.says("Promise 57", "Returns the reason for which the latest call of run() that did not throw failed;");
        Script.each("""
            block "ab"; macro 0 "move -1"; to 0; run 0 1; failureReason = NOT_ENOUGH; to 2; move 1 ! ISE; undo; failureReason = NOT_ENOUGH; redo
            run 0 0 ! IAE; run 4 1 ! IOOBE; failureReason = NOT_ENOUGH; macro 1 "setMark 0 left; clearMark 0"; setMark 0 left; record 2; jump 0; stop
            clearMark 0
            run 2 1; failureReason = NO_MARK

            # one that throws is left out of account
            block "x"; macro 0 "setMark 0 left"; macro 1 "move -1"; run 1 1; failureReason = NOT_ENOUGH; listen 0 'x' 'y' 0; listen 1 'y' 'x' 0
            run 0 1 ! DEPTH
            failureReason = NOT_ENOUGH; failureCommand = 100; record 2; repeat 16 "move 0"; run 3 1 ! ISE; failureReason = NOT_ENOUGH
            """);
        Doc.says("Promise 57", "0 if it did not fail, or if there was none.");
        Script.each("""
            failureReason = 0; block "ab"; failureReason = 0; macro 0 "move -1"; failureReason = 0; to 0; run 0 1; failureReason = NOT_ENOUGH
            run 3 1; failureReason = 0
            run 0 1; failureReason = NOT_ENOUGH; to 1; run 0 1; failureReason = 0
            """);
    }

    private static void promise58FailureCommand() {
        Doc.says("Promise 58", "Returns which command made the latest call of run() that did not throw fail: 100 times its macro, plus its index "
                + "in the macro, "
                + "from 0;");
        Script.each("""
            block "abcd"; macro 0 "move -1"; macro 1 "move 0; move -1"; macro 2 "move 0; run 1 1"; macro 3 "move 0; move 0; run 2 1; move 0"; to 0
            run 0 1; failureCommand = 0; run 1 1; failureCommand = 101; run 2 1; failureCommand = 101; run 3 1; failureCommand = 101
            run 1 11 ! IAE; run -1 1 ! IOOBE; move -1 ! ISE; failureCommand = 101; run 0 3; failureCommand = 0

            # the last of 16, in the last macro
            block "abcdefgh"; record 3; repeat 15 "move 0"; move -1; stop = 16; to 0; run 3 1; failureCommand = 315
            """);
        Doc.says("Promise 58", "NONE if that call did not fail, or if there was none.");
        Script.each("""
            failureCommand = NONE; run 0 1; failureCommand = NONE; block "ab"; macro 0 "move -1"; to 0; run 0 1; failureCommand = 0; to 1; run 0 1
            failureCommand = NONE
            """);
        Doc.says("Promise 58", "For TOO_DEEP it is the run that would have begun the level 6, for TOO_MANY the command that was not started.");
        Script.each("""
            # levels 1, 3, 5 are of macro 1
            macro 1 "move 0; move 0; run 2 1"; macro 2 "move 0; run 1 1"; run 1 1; failureReason = TOO_DEEP; failureCommand = 102; run 2 1
            failureCommand = 201

            macro 0 "move 0; move 0; move 0; move 0; move 0; move 0; move 0"; run 0 4; failureReason = TOO_MANY; failureCommand = 3
            macro 3 "run 0 3; move 0; move 0; checkpoint; move 0"; run 3 1 = 0; failureReason = TOO_MANY; failureCommand = 303
            macro 2 "move 0; run 0 9"; run 2 1; failureCommand = 1
            """);
    }

    private static void promise59ListenerChain() {
        Doc.says("Promise 59", "Returns an element of the listener chain.", "Returns the listener; NONE if the chain is empty.");
        Script.each("""
            chain = "-1 -1 -1 -1 -1 -1 -1 -1"; block "x"; listen 2 'x' 'y' 0; listen 0 'y' 'z' 0; listen 1 'z' 'x' 0; setMark 0 left ! DEPTH
            listenerChain 0 = 2; listenerChain 1 = 0; listenerChain 2 = 1; listenerChain 3 = 2; listenerChain 4 = 0; listenerChain 5 = 1
            listenerChain 6 = 2
            listenerChain 7 = 0; unlisten 2; setMark 0 left; listenerChain 0 = 2
            """);
        Doc.says("Promise 59", "- `element`: 0 to 7", "Throws `IndexOutOfBoundsException` if element is out of range");
        throwing("", "listenerChain BAD", "-1", "8", "9", "MIN", "MAX");
        throwing("block \"x\"; listen 2 'x' 'y' 0; listen 0 'y' 'x' 0; setMark 0 left ! DEPTH", "listenerChain BAD", "-1", "8", "9", "MIN", "MAX");
    }
}
