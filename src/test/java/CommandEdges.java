/** The sentences of the promises 1 to 18: a new object and the commands. */
final class CommandEdges {
    private static final String[] BAD_CHARACTERS = {"9", "11", "31", "127", "128", "0", "-1", "-10", "MIN", "MAX"};
    private static final String[] BAD_COUNTS = {"0", "-1", "21", "MIN", "MAX"};
    private static final String[] BAD_MARKS = {"-1", "6", "MIN", "MAX"};
    private static final String[] BAD_REGISTERS = {"-1", "4", "5", "MIN", "MAX"};
    private static final String LETTERS = "block \"abcdefghijklmnopqrstuvwxyz\"; to 0\n";

    private CommandEdges() {
    }

    static void all() {
        promise1NewObject();
        promise2Insert();
        promise3Overwrite();
        promise4Delete();
        promise5Move();
        promise6Search();
        promise7Kill();
        promise8Yank();
        promise9Rotate();
        promise10Copy();
        promise11Paste();
        promise12SetMark();
        promise13ClearMark();
        promise14Jump();
        promise15Narrow();
        promise16Widen();
        promise17Run();
        promise17RunThrows();
        promise18Checkpoint();
    }

    /** That a call throws with each of these in the place of BAD, and with these in the place of GOOD does not. */
    private static void arguments(String state, String call, String due, String[] bad, String... good) {
        for (String argument : bad) {
            Script.run(state + call.replace("BAD", argument) + " ! " + due);
        }
        for (String argument : good) {
            Script.run(state + call.replace("BAD", argument));
        }
    }

    private static void promise1NewObject() {
        Doc.says("Promise 1", "Makes an editor with an empty text.");
        Script.each("""
            length = 0; text = ""; point = 0; lines = 1; view = "0 0"; now = 0; nodes = 1; marks = "-1 -1 -1 -1 -1 -1"; charAt 0 ! IOOBE
            entries 0 = 0; entries 1 = 0; entries 2 = 0; entries 3 = 0; entries 4 = 0; commands 0 = 0; commands 3 = 0; failureReason = 0
            failureCommand = NONE; bookmarkAt 0 = NONE; bookmarkAt 4 = NONE; chain = "-1 -1 -1 -1 -1 -1 -1 -1"
            delete 1 ! ISE; overwrite 'a' ! ISE; move 1 ! ISE; move -1 ! ISE; search 'a' ! ISE; kill 1 ! ISE; copy 0 1 ! ISE; undo ! ISE; redo ! ISE
            stop ! ISE; close ! ISE; widen ! ISE; undoIn 0 0 ! ISE; walk 0 = 0; move 0 = 0; run 0 10 = 0; insert 'a' = 1

            track 0; track 1; track 2; track 3; track 4; now = 5
            """);
    }

    private static void promise2Insert() {
        Doc.says("Promise 2", "Inserts a character at the point; the point moves behind it.");
        Script.each("""
            insert 'b'; point = 1; text = "b"; to 0; insert 'a'; point = 1; text = "ab"; to 2; insert 'd'; point = 3; to 2; insert 'c'; point = 3
            text = "abcd"; setMark 0 right; insert 'x'; markAt 0 = 4; point = 4; setMark 1 left; insert 'y'; markAt 1 = 4; point = 5
            """);
        Doc.says("Promise 2", "- `character`: 10 or 32 to 126", "Throws `IllegalArgumentException` if character is out of range");
        arguments("type \"ab\"; ", "insert BAD", "IAE", BAD_CHARACTERS, "10", "32", "126", "33", "125");
        arguments("full; ", "insert BAD", "IAE", BAD_CHARACTERS);
        Doc.says("Promise 2", "Returns the length of the text then.");
        Script.each("""
            insert 'a' = 1; insert 'b' = 2; to 0; insert 'c' = 3; setMark 0 left; narrow 0; insert 'd' = 4; view = "1 2"; undo; undo; insert 'e' = 4
            """);
        Doc.says("Promise 2", "Throws `IllegalStateException` if it cannot be done: TOO_LONG, the text has 400 characters");
        Script.each("""
            full; insert 'x' ! ISE; to 0; insert 'x' ! ISE; delete 1 = 399; insert 'x' = 400; insert 'y' ! ISE
            macro 0 "move 0"; to 0; delete 1; macro 1 "insert 'z'"; run 1 1 = 0; failureReason = TOO_LONG; delete 1; run 1 1 = 1; failureReason = 0
            """);
    }

    private static void promise3Overwrite() {
        Doc.says("Promise 3", "Replaces the character behind the point; the point moves behind it.");
        Script.each("""
            block "abc"; to 0; overwrite 'x'; text = "xbc"; point = 1; overwrite 'y'; overwrite 'z'; text = "xyz"; point = 3; length = 3
            """);
        Doc.says("Promise 3", "It may be the same character.");
        Script.each("""
            block "aa"; to 0; overwrite 'a' = 'a'; point = 1; now = 2; stepsOf 2 = 1; undoIn 0 0 = 3; stepsOf 3 = 1; text = "aa"
            """);
        Doc.says("Promise 3", "- `character`: 10 or 32 to 126", "Throws `IllegalArgumentException` if character is out of range");
        arguments("block \"ab\"; to 0; ", "overwrite BAD", "IAE", BAD_CHARACTERS, "10", "32", "126", "33", "125");
        arguments("block \"ab\"; to 2; ", "overwrite BAD", "IAE", BAD_CHARACTERS);
        Doc.says("Promise 3", "Returns the character that was there.");
        Script.each("""
            insert 10; insert 126; to 0; overwrite 'x' = 10; overwrite 'y' = 126; to 0; overwrite 'z' = 'x'; overwrite 'z' = 'y'
            """);
        Doc.says("Promise 3", "Throws `IllegalStateException` if it cannot be done: NOT_ENOUGH, the point is at the end of the view");
        Script.each("""
            overwrite 'x' ! ISE; block "abc"; overwrite 'x' ! ISE; to 2; overwrite 'x' = 'c'; overwrite 'x' ! ISE
            to 1; setMark 0 left; to 0; narrow 0; overwrite 'y' = 'a'; overwrite 'y' ! ISE; widen; overwrite 'y' = 'b'
            macro 0 "overwrite 'z'"; run 0 1 = 0; failureReason = NOT_ENOUGH; to 2; run 0 1 = 1

            full; overwrite 'x' ! ISE; to 399; overwrite 'x' = 't'; length = 400
            """);
    }

    private static void promise4Delete() {
        Doc.says("Promise 4", "Deletes the characters behind the point.");
        Script.each("""
            block "abcdef"; to 2; delete 1; text = "abdef"; point = 2; delete 3; text = "ab"; point = 2; to 0; delete 2; text = ""; entries 4 = 0
            """);
        Doc.says("Promise 4", "- `count`: how many, 1 to 20", "Throws `IllegalArgumentException` if count is out of range");
        arguments(LETTERS, "delete BAD", "IAE", BAD_COUNTS, "1 = 25", "20 = 6", "19 = 7");
        arguments("", "delete BAD", "IAE", BAD_COUNTS);
        Doc.says("Promise 4", "Returns the length of the text then.");
        Script.each("""
            block "abcdef"; to 5; delete 1 = 5; to 0; delete 2 = 3; to 1; setMark 0 left; to 2; narrow 0; to 1; delete 1 = 2; to 1; widen; to 0
            delete 2 = 0
            """);
        Doc.says("Promise 4", "Throws `IllegalStateException` if it cannot be done: NOT_ENOUGH, fewer characters lie between the point and the "
                + "end of the view");
        Script.each("""
            delete 1 ! ISE; block "abcdef"; delete 1 ! ISE; to 5; delete 2 ! ISE; delete 1 = 5; to 0; delete 6 ! ISE; delete 20 ! ISE; delete 5 = 0

            block "abcdef"; to 4; setMark 0 left; to 1; narrow 0; delete 4 ! ISE; delete 5 ! ISE; delete 3 = 3; delete 1 ! ISE; text = "aef"
            widen; delete 2 = 1

            block "abcdef"; to 0; macro 0 "delete 2"; run 0 3 = 0; failureReason = NOT_ENOUGH; text = "cdef"; run 0 2 = 2; text = ""
            """);
    }

    private static void promise5Move() {
        Doc.says("Promise 5", "Moves the point.");
        Script.each("""
            block "abcdef"; to 0; move 2; point = 2; move -1; point = 1; move 0; point = 1; nodes = 2
            """);
        Doc.says("Promise 5", "- `distance`: -50 to 50: how many places further", "Throws `IllegalArgumentException` if distance is out of range");
        Script.each("""
            full; to 100; move 50 = 150; move -50 = 100; move 49 = 149; move -49 = 100; move 51 ! IAE; move -51 ! IAE; move 100 ! IAE; move MIN ! IAE
            move MAX ! IAE; to 400; move 51 ! IAE; move 1 ! ISE; to 0; move -51 ! IAE; move -50 ! ISE; move 50 = 50
            """);
        Doc.says("Promise 5", "Returns the point then.");
        Script.each("""
            block "abcdef"; move 0 = 6; move -6 = 0; move 6 = 6; move -1 = 5; move 1 = 6; move 0 = 6
            """);
        Doc.says("Promise 5", "Throws `IllegalStateException` if it cannot be done: NOT_ENOUGH, that place is not in the view");
        Script.each("""
            move 1 ! ISE; move -1 ! ISE; move 0 = 0; block "abcdef"; move 1 ! ISE; move -7 ! ISE; move -6 = 0; move 7 ! ISE; move 6 = 6
            to 2; setMark 0 left; to 4; narrow 0; move 1 ! ISE; move -3 ! ISE; move -2 = 2; move -1 ! ISE; move 3 ! ISE; move 2 = 4
            macro 0 "move -1"; run 0 1 = 1; run 0 1 = 0; failureReason = NOT_ENOUGH; point = 2
            """);
    }

    private static void promise6Search() {
        Doc.says("Promise 6", "Searches a character behind the point, up to the end of the view; the point moves behind the first one.");
        Script.each("""
            block "a.b.c"; to 0; search '.'; point = 2; search '.'; point = 4; search '.' ! ISE; search 'c'; point = 5; search 'c' ! ISE
            to 0; search 'a'; point = 1; search 'a' ! ISE; to 1; search '.'; point = 2; nodes = 2
            to 1; setMark 0 left; to 3; narrow 0; to 1; search '.' = 2; search '.' ! ISE; to 1; search 'b' = 3; to 1; search 'c' ! ISE
            search 'a' ! ISE
            """);
        Doc.says("Promise 6", "- `character`: 10 or 32 to 126", "Throws `IllegalArgumentException` if character is out of range");
        arguments("insert 10; insert 32; insert 126; to 0; ", "search BAD", "IAE", BAD_CHARACTERS, "10 = 1", "32 = 2", "126 = 3");
        Doc.says("Promise 6", "Returns the point then.");
        Script.each("""
            block "abcabc"; to 0; search 'c' = 3; search 'a' = 4; search 'c' = 6; to 2; search 'c' = 3
            """);
        Doc.says("Promise 6", "Throws `IllegalStateException` if it cannot be done: NOT_FOUND");
        Script.each("""
            search 'a' ! ISE; block "abcd"; search 'd' ! ISE; to 3; search 'c' ! ISE; search 'd' = 4; to 0; macro 0 "search 'd'"; run 0 1 = 0
            failureReason = NOT_FOUND; point = 4; to 0; setMark 0 left; to 3; narrow 0; to 0; run 0 1 = 0; failureReason = NOT_FOUND; widen
            run 0 1 = 1
            """);
    }

    private static void promise7Kill() {
        Doc.says("Promise 7", "Deletes the characters behind the point, and then makes them the front entry of the kill ring; what would be the "
                + "fifth entry "
                + "is lost.");
        Script.each("""
            block "abcdefghijkl"; to 1; kill 1; text = "acdefghijkl"; point = 1; store 4 = "b"; kill 2; store 4 = "cd|b"; kill 1; kill 3
            store 4 = "fgh|e|cd|b"; kill 1; store 4 = "i|fgh|e|cd"; text = "ajkl"; to 0; kill 4; store 4 = "ajkl|i|fgh|e"; text = ""; now = 7
            stepsOf 7 = 1
            """);
        Doc.says("Promise 7", "- `count`: how many, 1 to 20", "Throws `IllegalArgumentException` if count is out of range");
        arguments(LETTERS, "kill BAD", "IAE", BAD_COUNTS, "1; entryLength 4 0 = 1", "20; entryLength 4 0 = 20; length = 6", "19");
        arguments("", "kill BAD", "IAE", BAD_COUNTS);
        Doc.says("Promise 7", "Returns the number of entries of the kill ring then.");
        Script.run(LETTERS + "kill 2 = 1; kill 1 = 2; kill 20 = 3; kill 1 = 4; kill 1 = 4; kill 1 = 4; entries 4 = 4");
        Doc.says("Promise 7", "Throws `IllegalStateException` if it cannot be done: NOT_ENOUGH, as for delete()");
        Script.each("""
            kill 1 ! ISE; block "abcdef"; kill 1 ! ISE; to 5; kill 2 ! ISE; kill 1 = 1; to 0; kill 6 ! ISE; kill 20 ! ISE; kill 5 = 2

            block "abcdef"; to 4; setMark 0 left; to 1; narrow 0; kill 4 ! ISE; kill 3 = 1; kill 1 ! ISE; widen; macro 0 "kill 2"; run 0 1 = 0
            failureReason = NOT_ENOUGH; store 4 = "ef|bcd"
            """);
    }

    private static void promise8Yank() {
        Doc.says("Promise 8", "Inserts the front entry of the kill ring at the point; the point moves behind it.");
        Script.each("""
            block "abcdef"; to 0; kill 1; kill 2; text = "def"; to 1; yank; text = "dbcef"; point = 3; yank; text = "dbcbcef"; point = 5
            store 4 = "bc|a"; rotate; to 7; yank; text = "dbcbcefa"; point = 8; stepsOf 6 = 1
            """);
        Doc.says("Promise 8", "Returns the length of the text then.");
        Script.each("""
            block "abcdef"; to 0; kill 2; yank = 6; yank = 8; to 0; kill 1; yank = 8
            """);
        Doc.says("Promise 8", "Throws `IllegalStateException` if it cannot be done: NO_ENTRY, the kill ring has none;");
        Script.each("""
            yank ! ISE; block "ab"; yank ! ISE; copy 0 1 ! ISE; to 0; copy 0 1; yank ! ISE; track 4; kill 1; macro 0 "yank"; walk 0; yank ! ISE
            run 0 1 = 0
            failureReason = NO_ENTRY; full; yank ! ISE; run 0 1 = 0; failureReason = NO_ENTRY
            """);
        Doc.says("Promise 8", "TOO_LONG, the text would have more than 400 characters");
        Script.each("""
            full; to 380; kill 20; yank = 400; yank ! ISE; to 399; delete 1; yank ! ISE; to 380; delete 19 = 380; yank = 400

            full; to 0; kill 2; insert 'x'; yank ! ISE; macro 0 "delete 1; yank"; length = 400; run 0 1 = 0; failureReason = TOO_LONG
            failureCommand = 1
            length = 400; delete 1; run 0 1 = 2; length = 400
            """);
    }

    private static void promise9Rotate() {
        Doc.says("Promise 9", "Makes the front entry of the kill ring its last one.");
        Script.each("""
            block "abcdef"; to 0; kill 1; kill 1; rotate; store 4 = "a|b"; rotate; store 4 = "b|a"; kill 1; rotate; store 4 = "b|a|c"; kill 1
            store 4 = "d|b|a|c"; rotate; store 4 = "b|a|c|d"; rotate; rotate; rotate; store 4 = "d|b|a|c"; point = 0; text = "ef"; now = 5
            """);
        Doc.says("Promise 9", "Returns the number of entries of the kill ring.");
        Script.each("""
            block "abcdef"; to 0; kill 1; kill 1; rotate = 2; kill 1; rotate = 3; kill 1; rotate = 4; kill 1; rotate = 4
            """);
        Doc.says("Promise 9", "Throws `IllegalStateException` if it cannot be done: NO_ENTRY, the kill ring has fewer than 2 entries");
        Script.each("""
            rotate ! ISE; block "abc"; to 0; kill 1; rotate ! ISE; kill 1; rotate = 2; track 4; macro 0 "rotate"; walk 0; rotate ! ISE; run 0 1 = 0
            failureReason = NO_ENTRY; insert 'x'; to 0; kill 1; rotate ! ISE; run 0 1 = 0; failureReason = NO_ENTRY
            """);
    }

    private static void promise10Copy() {
        Doc.says("Promise 10", "Makes the characters behind the point the contents of a register.");
        Script.each("""
            block "abcdef"; to 1; copy 0 2; store 0 = "bc"; point = 1; text = "abcdef"; copy 0 5; store 0 = "bcdef"; to 5; copy 3 1; store 3 = "f"
            store 0 = "bcdef"; store 1 = ""; store 2 = ""; store 4 = ""; nodes = 2; delete 1; store 3 = "f"
            """);
        Doc.says("Promise 10", "- `register`: 0 to 3", "Throws `IndexOutOfBoundsException` if there is no such register");
        arguments(LETTERS, "copy BAD 1", "IOOBE", BAD_REGISTERS, "0", "3");
        arguments(LETTERS, "copy BAD 0", "IOOBE", BAD_REGISTERS);
        arguments("", "copy BAD 1", "IOOBE", BAD_REGISTERS);
        Doc.says("Promise 10", "- `count`: how many, 1 to 20", "Throws `IllegalArgumentException` if count is out of range");
        arguments(LETTERS, "copy 0 BAD", "IAE", BAD_COUNTS, "1; entryLength 0 0 = 1", "20; entryLength 0 0 = 20", "19");
        arguments("", "copy 3 BAD", "IAE", BAD_COUNTS);
        Doc.says("Promise 10", "Returns the length that the contents had before, 0 if it was empty.");
        Script.run(LETTERS + "copy 0 3 = 0; copy 0 20 = 3; copy 0 1 = 20; copy 0 1 = 1; copy 1 2 = 0; copy 3 2 = 0; track 3; walk 1; to 0; copy 3 "
                + "1 = 0");
        Doc.says("Promise 10", "Throws `IllegalStateException` if it cannot be done: NOT_ENOUGH, as for delete()");
        Script.each("""
            copy 0 1 ! ISE; block "abcdef"; copy 0 1 ! ISE; to 5; copy 0 2 ! ISE; copy 0 1 = 0; to 0; copy 0 7 ! ISE; copy 0 6 = 1; store 0 = "abcdef"

            block "abcdef"; to 4; setMark 0 left; to 1; narrow 0; copy 0 4 ! ISE; copy 0 3 = 0; to 4; copy 0 1 ! ISE; widen; to 3; macro 0 "copy 0 3"
            to 4
            run 0 1 = 0; failureReason = NOT_ENOUGH; store 0 = "def"
            """);
    }

    private static void promise11Paste() {
        Doc.says("Promise 11", "Inserts the contents of a register at the point; the point moves behind them.");
        Script.each("""
            block "abcd"; to 0; copy 0 2; copy 3 1; to 4; paste 0; text = "abcdab"; point = 6; to 1; paste 0; text = "aabbcdab"; point = 3; paste 3
            text = "aababcdab"; point = 4; store 0 = "ab"; store 3 = "a"; stepsOf 2 = 1; now = 4
            """);
        Doc.says("Promise 11", "- `register`: 0 to 3", "Throws `IndexOutOfBoundsException` if there is no such register");
        arguments(LETTERS + "copy 0 2; copy 1 3; copy 2 1; copy 3 4; kill 1; ", "paste BAD", "IOOBE", BAD_REGISTERS, "0 = 27", "1 = 28", "2 = 26",
                "3 = 29");
        arguments("", "paste BAD", "IOOBE", BAD_REGISTERS);
        Doc.says("Promise 11", "Returns the length of the text then.");
        Script.each("""
            block "abcd"; to 0; copy 0 3; paste 0 = 7; paste 0 = 10; delete 2 = 8; paste 0 = 11
            """);
        Doc.says("Promise 11", "Throws `IllegalStateException` if it cannot be done: NO_ENTRY, the register is empty;");
        Script.each("""
            paste 0 ! ISE; paste 3 ! ISE; block "ab"; to 0; kill 1; paste 0 ! ISE; copy 1 1; paste 0 ! ISE; paste 2 ! ISE; paste 1 = 2; track 1
            macro 0 "paste 1"; walk 0; paste 1 ! ISE; run 0 1 = 0; failureReason = NO_ENTRY; full; paste 1 ! ISE; run 0 1 = 0
            failureReason = NO_ENTRY
            """);
        Doc.says("Promise 11", "TOO_LONG, the text would have more than 400 characters");
        Script.each("""
            full; paste 0 ! ISE; to 381; delete 19 = 381; paste 0 ! ISE; to 380; delete 1 = 380; macro 0 "move 0; paste 0; move -20"; length = 400
            run 0 1 = 0
            failureReason = TOO_LONG; failureCommand = 1; delete 20; run 0 1 = 3; length = 400

            full; to 0; copy 1 1; paste 1 ! ISE; delete 1; paste 1 = 400; paste 1 ! ISE
            """);
    }

    private static void promise12SetMark() {
        Doc.says("Promise 12", "Sets a mark to the point; it may be set already.");
        Script.each("""
            block "abc"; setMark 2 left; markAt 2 = 3; to 1; setMark 2 left; markAt 2 = 1; setMark 3 left; markAt 3 = 1; markAt 2 = 1; point = 1
            """);
        Doc.says("Promise 12", "This is a step in any case.");
        Script.each("""
            setMark 0 left; now = 1; stepsOf 1 = 1; setMark 0 left; now = 2; stepsOf 2 = 1; setMark 0 right; now = 3; open; setMark 0 right
            setMark 0 right; close = 4; stepsOf 4 = 2
            """);
        Doc.says("Promise 12", "- `mark`: 0 to 5", "Throws `IndexOutOfBoundsException` if there is no such mark");
        arguments("block \"ab\"; ", "setMark BAD left", "IOOBE", BAD_MARKS, "0", "5");
        arguments("record 0; repeat 16 \"move 0\"\n", "setMark BAD right", "IOOBE", BAD_MARKS);
        Doc.says("Promise 12", "- `right`: true for right gravity, false for left gravity");
        Script.each("""
            setMark 0 right; setMark 1 left; insert 'a'; markAt 0 = 1; markAt 1 = 0; setMark 0 left; setMark 1 right; insert 'b'; markAt 0 = 1
            markAt 1 = 2
            walk 3; insert 'c'; markAt 0 = 2; markAt 1 = 0; macro 0 "setMark 4 right; setMark 5 left"; run 0 1; insert 'd'; markAt 4 = 3; markAt 5 = 2
            """);
        Doc.says("Promise 12", "Returns the place where it was; NONE if it was unset.");
        Script.each("""
            setMark 0 left = NONE; setMark 0 left = 0; insert 'a'; setMark 0 left = 0; insert 'b'; setMark 0 left = 1; setMark 5 left = NONE
            clearMark 0; setMark 0 left = NONE
            """);
        Doc.says("Promise 12", "Throws `IllegalStateException` if listeners make a replacement at depth 8,");
        Script.each("""
            block "x"; listen 0 'x' 'y' 0; listen 1 'y' 'x' 0; setMark 0 left ! DEPTH; setMark 5 right ! DEPTH; markAt 0 = NONE; unlisten 0
            setMark 0 left = NONE
            """);
        Doc.says("Promise 12", "or if the recorded list is full");
        Script.each("""
            record 0; repeat 15 "move 0"; setMark 0 left = NONE; setMark 0 left ! ISE; setMark 1 left ! ISE; stop = 16; setMark 1 left = NONE

            # both: the call throws whichever it is
            block "x"; record 0; repeat 16 "move 0"; listen 0 'x' 'y' 0; listen 1 'y' 'x' 0; setMark 0 left ! DEPTH
            """);
    }

    private static void promise13ClearMark() {
        Doc.says("Promise 13", "Unsets a mark.");
        Script.each("""
            block "abc"; setMark 2 left; setMark 3 right; clearMark 2; markAt 2 = NONE; markAt 3 = 3; now = 4; stepsOf 4 = 1; undo; markAt 2 = 3
            """);
        Doc.says("Promise 13", "- `mark`: 0 to 5", "Throws `IndexOutOfBoundsException` if there is no such mark");
        arguments("setMark 0 left; setMark 5 left; ", "clearMark BAD", "IOOBE", BAD_MARKS, "0 = 0", "5 = 0");
        Doc.says("Promise 13", "Returns the place where it was.");
        Script.each("""
            block "abc"; setMark 0 left; to 1; setMark 5 left; delete 1; clearMark 0 = 2; clearMark 5 = 1; to 0; setMark 0 left; clearMark 0 = 0
            """);
        Doc.says("Promise 13", "Throws `IllegalStateException` if it cannot be done: NO_MARK, it is unset");
        Script.each("""
            clearMark 0 ! ISE; clearMark 5 ! ISE; setMark 0 left; clearMark 1 ! ISE; macro 0 "clearMark 0"; clearMark 0 ! ISE; run 0 1 = 0
            failureReason = NO_MARK; failureCommand = 0

            # a mark outside the view is not unset
            block "abcd"; setMark 0 left; to 0; setMark 1 left; to 1; setMark 2 left; to 3; narrow 2; clearMark 0 = 4; clearMark 1 = 0
            clearMark 2 = 1
            view = "1 3"
            """);
    }

    private static void promise14Jump() {
        Doc.says("Promise 14", "Moves the point to a mark.");
        Script.each("""
            block "abcd"; setMark 0 left; to 1; setMark 5 left; to 2; jump 0; point = 4; jump 5; point = 1; jump 5; point = 1; nodes = 4
            """);
        Doc.says("Promise 14", "- `mark`: 0 to 5", "Throws `IndexOutOfBoundsException` if there is no such mark");
        arguments("block \"ab\"; setMark 0 left; to 1; setMark 5 left; to 0; ", "jump BAD", "IOOBE", BAD_MARKS, "0 = 2", "5 = 1");
        Doc.says("Promise 14", "Returns the point then.");
        Script.each("""
            block "abcd"; setMark 0 left; to 0; setMark 1 left; jump 0 = 4; jump 1 = 0; jump 0 = 4
            """);
        Doc.says("Promise 14", "Throws `IllegalStateException` if it cannot be done: NO_MARK, it is unset or not in the view");
        Script.each("""
            jump 0 ! ISE; setMark 0 left; jump 1 ! ISE; jump 0 = 0; macro 0 "jump 0"; clearMark 0; jump 0 ! ISE; run 0 1 = 0; failureReason = NO_MARK

            block "abcdef"; to 1; setMark 0 left; to 2; setMark 1 left; to 4; setMark 2 left; to 5; setMark 3 left; to 4; narrow 1; jump 0 ! ISE
            jump 3 ! ISE
            jump 1 = 2; jump 2 = 4; macro 0 "jump 2"; widen; to 0; narrow 1; view = "0 2"; run 0 1 = 0; failureReason = NO_MARK; jump 2 ! ISE
            jump 0 = 1
            """);
    }

    private static void promise15Narrow() {
        Doc.says("Promise 15", "Begins a view within the current one, from the lesser to the greater of the point and a mark.");
        Script.each("""
            block "abcdef"; to 2; setMark 0 left; to 5; narrow 0; view = "2 5"; point = 5; to 3; narrow 0; view = "2 3"; widen; setMark 1 left
            narrow 1
            view = "3 3"; widen; widen; to 0; narrow 0; view = "0 2"; point = 0; nodes = 4
            """);
        Doc.says("Promise 15", "- `mark`: 0 to 5", "Throws `IndexOutOfBoundsException` if there is no such mark");
        arguments("setMark 0 left; setMark 5 left; ", "narrow BAD", "IOOBE", BAD_MARKS, "0 = 1", "5 = 1");
        arguments("setMark 0 left; repeat 4 \"narrow 0\"\n", "narrow BAD", "IOOBE", BAD_MARKS);
        Doc.says("Promise 15", "Returns the number of nested views then.");
        Script.each("setMark 0 left; narrow 0 = 1; narrow 0 = 2; widen; narrow 0 = 2; narrow 0 = 3; narrow 0 = 4");
        Doc.says("Promise 15", "Throws `IllegalStateException` if it cannot be done: NO_MARK, it is unset or not in the view;");
        Script.each("""
            narrow 0 ! ISE; setMark 0 left; macro 0 "narrow 0; widen"; narrow 1 ! ISE; clearMark 0; narrow 0 ! ISE; run 0 1 = 0
            failureReason = NO_MARK

            block "abcdef"; to 1; setMark 0 left; to 2; setMark 1 left; to 4; setMark 2 left; to 5; setMark 3 left; to 4; narrow 1; narrow 0 ! ISE
            narrow 3 ! ISE; narrow 1 = 2; narrow 2 = 3; widen; view = "2 4"; to 2; narrow 2 = 3; widen = 2
            """);
        Doc.says("Promise 15", "VIEWS, there are 4 views");
        Script.each("""
            setMark 0 left; macro 0 "narrow 0"; narrow 0 = 2; narrow 0 = 3; run 0 1 = 1; narrow 0 ! ISE; run 0 1 = 0; failureReason = VIEWS
            narrow 1 ! ISE
            clearMark 0; run 0 1 = 0; failureReason = NO_MARK; widen = 3
            """);
    }

    private static void promise16Widen() {
        Doc.says("Promise 16", "Removes the innermost view.");
        Script.each("""
            block "abcdef"; to 1; setMark 0 left; to 5; narrow 0; to 4; narrow 0; to 2; narrow 0; view = "1 2"; widen; view = "1 4"; widen
            view = "1 5"; widen; view = "0 6"; point = 2; nodes = 3
            """);
        Doc.says("Promise 16", "Returns the number of nested views then.");
        Script.each("""
            setMark 0 left; narrow 0; widen = 0; narrow 0; narrow 0; narrow 0; narrow 0; widen = 3; widen = 2; widen = 1; widen = 0
            """);
        Doc.says("Promise 16", "Throws `IllegalStateException` if it cannot be done: VIEWS, there is none");
        Script.each("""
            widen ! ISE; setMark 0 left; narrow 0; macro 0 "widen"; widen ! ISE; run 0 1 = 0; failureReason = VIEWS; narrow 0; run 0 1 = 1
            widen ! ISE; narrow 0; walk 0; widen ! ISE
            """);
    }

    private static void promise17Run() {
        Doc.says("Promise 17", "Runs a macro.");
        Script.each("""
            macro 0 "insert 'a'"; macro 3 "insert 'b'"; walk 0; run 3 1; text = "b"; run 0 1; text = "ba"; run 1 1; text = "ba"; commands 0 = 1
            """);
        Doc.says("Promise 17", "- `macro`: 0 to 3", "Throws `IndexOutOfBoundsException` if there is no such macro");
        arguments("macro 0 \"move 0\"; ", "run BAD 1", "IOOBE", BAD_REGISTERS, "0", "3");
        arguments("record 0; repeat 16 \"move 0\"\n", "run BAD 0", "IOOBE", BAD_REGISTERS);
        Doc.says("Promise 17", "- `times`: 1 to 10", "Throws `IllegalArgumentException` if times is out of range");
        arguments("macro 0 \"move 0; move 0\"; ", "run 0 BAD", "IAE", new String[] {"0", "-1", "11", "MIN", "MAX"}, "1 = 2", "10 = 20", "9 = 18");
        arguments("record 0; repeat 16 \"move 0\"\n", "run 3 BAD", "IAE", new String[] {"0", "11"});
        Doc.says("Promise 17", "Returns the number of commands that were started, if it does not fail;");
        Script.each("""
            run 0 1 = 0; macro 0 "move 0; checkpoint; move 0"; run 0 1 = 3; run 0 8 = 24; macro 1 "run 0 2; run 2 3"; run 1 1 = 8; run 1 3 = 24
            run 2 10 = 0
            """);
        Doc.says("Promise 17", "otherwise the number that had been started when checkpoint() was last executed during this run, this one included,");
        Script.each("""
            block "abc"; macro 0 "checkpoint; move -1"; run 0 2 = 4; point = 0; failureReason = 0; run 0 1 = 1; failureReason = NOT_ENOUGH; to 1
            run 0 3 = 3
            to 3; macro 1 "move 0; run 0 2; move 0"; point = 1; run 1 1 = 5; failureReason = NOT_ENOUGH; failureCommand = 1; point = 0
            """);
        Doc.says("Promise 17", "or 0 if it was not.");
        Script.each("""
            block "abc"; macro 0 "move -1; move -1"; run 0 1 = 0; failureReason = NOT_ENOUGH; point = 1; checkpoint; run 0 2 = 0; to 2; run 0 1 = 2
            """);
    }

    private static void promise17RunThrows() {
        Doc.says("Promise 17", "Throws `IllegalStateException` if listeners make a replacement at depth 8,");
        Script.each("""
            macro 0 "insert 'x'"; macro 1 "move 0"; macro 2 "insert 'x'; checkpoint; move -1; move -1"; listen 0 'x' 'y' 0; listen 1 'y' 'x' 0
            text = "xx"
            run 0 1 ! DEPTH; run 1 1 = 1; to 0; run 2 1 ! DEPTH; failureReason = 0; run 0 10 ! DEPTH; open; run 0 1 = 1; close ! DEPTH; unlisten 0
            close
            text = "xxx"
            """);
        Doc.says("Promise 17", "or if the recorded list is full");
        Script.each("""
            record 0; repeat 15 "move 0"; run 1 1 = 0; run 1 1 ! ISE; stop = 16; run 0 1 = 16
            """);
    }

    private static void promise18Checkpoint() {
        Doc.says("Promise 18", "Sets a checkpoint for the run that executes it;");
        Script.each("""
            block "ab"; macro 0 "move -1; checkpoint; insert 'x'; move -2"; point = 0; to 3; run 0 1 = 4; text = "axxb"; point = 1
            run 0 1 = 2; failureReason = NOT_ENOUGH; point = 0; text = "axxb"
            """);
        Doc.says("Promise 18", "nothing happens if it is called.");
        Ed x = Script.run("type \"ab\"; setMark 0 left; narrow 0; macro 0 \"insert 'x'; move -1\"");
        String was = Check.all(x);
        x.checkpoint();
        Check.is("all queries", Check.all(x), was);
        Script.each("""
            block "ab"; to 1; checkpoint; macro 0 "move -1"; to 1; run 0 2 = 0; point = 1; open; checkpoint; close = 1; nodes = 2; checkpoint; undo
            checkpoint; redo = 1
            """);
        Doc.says("Promise 18", "Throws `IllegalStateException` if the recorded list is full");
        Script.each("""
            record 0; repeat 15 "checkpoint"; checkpoint; checkpoint ! ISE; stop = 16; checkpoint; run 0 1 = 16
            """);
    }
}
