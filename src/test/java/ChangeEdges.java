/** The sentences of the section "Commands": what makes a change, typing, groups. */
final class ChangeEdges {
    private ChangeEdges() {
    }

    static void all() {
        commandsAreThoseOfTheSection();
        otherCallsAreNoCommands();
        commandsWorkWithinTheView();
        lowestReason();
        commandsThatListenersRefuse();
        commandsThatMakeChanges();
        typingExtends();
        typingInGroup();
        typingOnlyBehindInsert();
        typingEndedByEachOtherCall();
        typingAndCallsThatThrew();
        typingAndTicks();
        typingAndKindsOfCharacters();
        typingAndListeners();
        typingAndMerges();
        extendedInsertion();
        groups();
        stepsOfGroups();
    }

    /** An editor in which each command and each other call can be made; its view is the whole text, which is cdef. */
    private static Ed ready() {
        return Script.run("""
            block "abcdef"; to 0; kill 1; kill 1; copy 0 1; to 1; setMark 0 left; setMark 3 left; to 4; setMark 5 left; to 0; narrow 5
            view = "0 4"
            """);
    }

    private static final String[] COMMANDS = {"insert 'x'", "overwrite 'x'", "delete 1", "move 1", "search 'f'", "kill 1", "yank", "rotate",
        "copy 1 1", "paste 0", "setMark 1 right", "clearMark 3", "jump 0", "narrow 0", "widen", "run 0 1", "checkpoint"};
    private static final String[] OTHERS = {"open", "pass 1", "track 0", "undo", "redo", "walk 0", "undoIn 0 4", "setBookmark 0",
        "clearBookmark 0", "setBudget 600", "listen 0 'x' 'y' 0", "unlisten 0"};

    private static String call(String[] calls, String name) {
        for (String call : calls) {
            if (call.equals(name) || call.startsWith(name + " ")) {
                return call;
            }
        }
        return "no call for " + name;
    }

    private static void commandsAreThoseOfTheSection() {
        Doc.says("Commands", "The methods in the section \"commands\" are commands.");
        Doc.says("Exceptions", "Ahead of the calls `insert` ... ---- commands.");
        for (String name : Doc.namesAfter("Exceptions", "Ahead of the calls `insert`")) {
            Script.on(ready(), "record 2; " + call(COMMANDS, name) + "; stop = 1; commands 2 = 1");
        }
    }

    private static void otherCallsAreNoCommands() {
        Doc.says("Exceptions", "Ahead of the calls `undo` ... ---- the tree.");
        for (String name : Doc.namesAfter("Exceptions", "Ahead of the calls `undo`")) {
            String child = name.equals("redo") ? "undo; " : "";
            Script.on(ready(), child + "record 2; " + call(OTHERS, name) + "; stop = 0; commands 2 = 0");
        }
        Doc.says("Exceptions", "Ahead of the calls `record` ... ---- recording, groups, time, stores.");
        for (String name : Doc.namesAfter("Exceptions", "Ahead of the calls `record`")) {
            if (name.equals("close")) {
                Script.on(ready(), "open; record 2; close; stop = 0");
            } else if (!name.equals("record") && !name.equals("stop")) {
                Script.on(ready(), "record 2; " + call(OTHERS, name) + "; stop = 0");
            }
        }
        Script.on(ready(), "record 2; stop = 0");
        Doc.says("Exceptions", "Ahead of the calls `length` ... ---- queries.");
        Ed x = Script.on(ready(), "record 2");
        for (String name : Doc.namesAfter("Exceptions", "Ahead of the calls `length`")) {
            x.askHere(name, name.equals("entryLength") ? 4 : name.equals("entryChar") ? 4 : name.equals("charByReplay") ? 1 : 0, 0, 0);
        }
        Script.on(x, "stop = 0");
    }

    private static void commandsWorkWithinTheView() {
        Doc.says("Commands", "A command works within the current view (see below).");
        String view = "block \"0123456789\"; to 0; setMark 0 left; to 7; setMark 1 left; to 3; setMark 2 left; to 6; narrow 2; view = \"3 6\"; ";
        Script.run(view + """
            overwrite 'x' ! ISE; delete 1 ! ISE; move 1 ! ISE; search '6' ! ISE; kill 1 ! ISE; copy 0 1 ! ISE
            jump 0 ! ISE; jump 1 ! ISE; narrow 0 ! ISE; narrow 1 ! ISE; jump 2 = 3
            move -1 ! ISE; move 4 ! ISE; move 3 = 6; move -3 = 3
            delete 4 ! ISE; kill 4 ! ISE; copy 0 4 ! ISE; copy 0 3 = 0; kill 3 = 1; text = "0126789"; view = "3 3"; delete 1 ! ISE
            """);
        Script.run(view + "jump 2; search '5' = 6; jump 2; delete 3 = 7; text = \"0126789\"");
    }

    private static void lowestReason() {
        Doc.says("Commands", "If a command cannot be done, it throws IllegalStateException; the reasons are constants, and if several apply, the "
                + "one with the lowest value is the reason.");
        // a store that is tracked is empty at the root, so that a macro can hold a command that can't be done there
        String empty = "block \"ab\"; to 0; copy 3 1; track 3; track 4; kill 1; macro 0 \"yank\"; macro 1 \"paste 3\"; walk 0; full; ";
        Script.run(empty + "yank ! ISE; run 0 1 = 0; failureReason = NO_ENTRY; failureCommand = 0");
        Script.run(empty + "paste 3 ! ISE; run 1 1 = 0; failureReason = NO_ENTRY; failureCommand = 100");
        Script.run(empty + "macro 2 \"setMark 0 left; clearMark 0\"; to 399; kill 1; insert 'z'; run 0 1 = 0; failureReason = TOO_LONG");
        String views = "setMark 0 left; macro 0 \"narrow 0\"; narrow 0; narrow 0; narrow 0 = 4; ";
        Script.run(views + "run 0 1 = 0; failureReason = VIEWS; clearMark 0; narrow 0 ! ISE; run 0 1 = 0; failureReason = NO_MARK");
    }

    private static void commandsThatListenersRefuse() {
        Doc.says("Commands", "A command that makes a change also throws it if listeners make a replacement at depth 8 (see below).");
        Ed x = Script.on(ready(), """
            track 1; track 4; macro 0 "setMark 4 left"; macro 1 "move 0; copy 3 1"; listen 0 'd' '!' 0; listen 1 '!' 'd' 0
            chain = "-1 -1 -1 -1 -1 -1 -1 -1"
            """);
        for (String command : COMMANDS) {
            String name = command.split(" ")[0];
            boolean makesNone = "move search jump narrow widen checkpoint".contains(name);
            if (!makesNone) {
                Script.on(x, command + " ! DEPTH; chain = \"0 1 0 1 0 1 0 1\"");
            }
        }
        // the text keeps its d, and these make no change
        Script.on(x, "move 1; move -1; search 'f'; jump 0; narrow 0; widen; checkpoint; run 1 1 = 2; copy 2 1; copy 3 2; text = \"cdef\"");
        Script.on(x, "to 1; delete 1 = 3; text = \"cef\"");
    }

    private static void commandsThatMakeChanges() {
        Doc.says("Commands", "Outside a group, a command that does one or more steps makes a change of these steps.");
        String[] steps = {"insert 'x' 1", "overwrite 'x' 1", "delete 1 1", "move 1 0", "search 'f' 0", "kill 1 1", "yank 1", "rotate 0", "copy 1 1 0",
            "paste 0 1", "setMark 1 right 1", "clearMark 3 1", "jump 0 0", "narrow 0 0", "widen 0", "run 0 1 0", "checkpoint 0", "overwrite 'c' 1",
            "setMark 0 left 1"};
        for (String line : steps) {
            made(ready(), line);
        }
        String[] tracked = {"kill 1 2", "rotate 1", "copy 1 1 1", "copy 2 1 0", "yank 1", "paste 0 1", "run 0 1 4"};
        for (String line : tracked) {
            Ed x = Script.on(ready(), "track 1; track 4; macro 0 \"setMark 4 left; insert 'x'; kill 1\"");
            made(x, line);
        }
    }

    /** A call, and how many steps the change has that it makes; 0 for no change. */
    private static void made(Ed x, String line) {
        String call = line.substring(0, line.lastIndexOf(' '));
        int due = Integer.parseInt(line.substring(call.length() + 1));
        int nodes = x.nodes();
        int now = x.now();
        Script.on(x, call);
        Check.is("nodes behind " + call, x.nodes(), due == 0 ? nodes : nodes + 1);
        Check.is("parent behind " + call, due == 0 ? now : x.parentOf(x.now()), now);
        Check.is("steps behind " + call, due == 0 ? 0 : x.stepsOf(x.now()), due);
    }

    // ---- typing

    private static void typingExtends() {
        Doc.says("Commands", "The only exception is typing: insert() outside a group extends the change of the current node instead of making a "
                + "change, if all of this holds:");
        Script.run("""
            insert 'a' = 1; now = 1; insert 'b' = 2; insert 'c' = 3; now = 1; nodes = 2; stepsOf 1 = 1; replay 1 = "abc"
            undo; text = ""; redo; text = "abc"; point = 3; insert 'd'; now = 2
            """);
        // only insert() does
        Script.each("""
            setMark 0 left; setMark 0 left; now = 2; block "ab"; to 0; overwrite 'x'; overwrite 'y'; now = 5

            block "abc"; to 0; delete 1; delete 1; now = 3
            """);
    }

    private static void typingInGroup() {
        Doc.says("Commands", "insert() outside a group extends");
        Script.each("""
            insert 'a'; open; insert 'b'; stepsOf 1 = 1; replay 1 = "a"; insert 'c'; close = 2; stepsOf 2 = 2; parentOf 2 = 1

            open; insert 'a'; insert 'b'; insert 'c'; close = 1; stepsOf 1 = 3; insert 'd'; now = 2; insert 'e'; now = 2; stepsOf 2 = 1
            """);
    }

    private static void typingOnlyBehindInsert() {
        Doc.says("Commands", "that change was made by insert() and has only been extended since;");
        // the change of the current node was made by something else, though it inserts a character
        Script.each("""
            block "a"; insert 'b'; now = 2

            block "a"; to 0; copy 0 1; to 1; paste 0; insert 'b'; now = 3; stepsOf 2 = 1

            block "a"; to 0; kill 1; yank; insert 'b'; now = 4

            macro 0 "insert 'a'"; run 0 1; now = 2; insert 'b'; now = 3; stepsOf 2 = 1; insert 'c'; now = 3

            insert 'a'; run 0 1; insert 'b'; now = 2

            block "ab"; to 0; overwrite 'x'; insert 'y'; now = 3; stepsOf 2 = 1

            type "ab"; to 0; delete 1; undoIn 0 0 = 3; text = "ab"; insert 'c'; now = 4; stepsOf 3 = 1

            insert 'a'; walk 0; insert 'b'; now = 2; walk 1; insert 'c'; now = 3; parentOf 3 = 1; insert 'd'; now = 3

            track 0; insert 'a'; now = 2; setMark 0 left; insert 'b'; now = 4
            """);
    }

    private static void typingEndedByEachOtherCall() {
        Doc.says("Commands", "after the last insert() that made or extended it no method was called except pass() and queries");
        String[] calls = {"overwrite 'o'", "delete 1", "move 0", "search 'f'", "kill 1", "yank", "rotate", "copy 1 1", "paste 0", "setMark 1 right",
            "clearMark 3", "jump 0", "narrow 0", "widen", "run 0 1", "checkpoint", "record 0", "open; close", "track 2", "undo; redo",
            "setBookmark 0", "clearBookmark 0", "setBudget 600", "listen 0 '~' '!' 0", "unlisten 0"};
        for (String call : calls) {
            endedBy(Script.on(ready(), "type \"ab\""), call);
        }
        endedBy(Script.on(ready(), "record 0; type \"ab\""), "stop");
        endedBy(Script.on(ready(), "type \"ab\"; open"), "close");
        Ed walked = Script.on(ready(), "type \"ab\"");
        endedBy(walked, "walk " + walked.now());
        endedBy(Script.on(ready(), "to 4; insert '-'; to 0; type \"ab\""), "undoIn 7 7");
        // neither pass() nor any query ends it, asked of the very object
        Ed x = Script.on(ready(), "type \"ab\"");
        int node = x.now();
        for (String name : Doc.namesAfter("Exceptions", "Ahead of the calls `length`")) {
            x.askHere(name, name.equals("entryLength") ? 4 : name.equals("entryChar") ? 4 : name.equals("charByReplay") ? 1 : 0, 0, 0);
        }
        Script.on(x, "pass 1; insert 'c'; pass 3; insert 'd'; now = " + node + "; stepsOf " + node + " = 1");
    }

    private static void endedBy(Ed x, String call) {
        Script.on(x, call);
        int nodes = x.nodes();
        int now = x.now();
        int length = x.lengthByReplay(now);
        x.insert('c');
        Check.is("a new node behind " + call, x.nodes(), nodes + 1);
        Check.is("its parent behind " + call, x.parentOf(x.now()), now);
        Check.is("the state ahead of it behind " + call, x.lengthByReplay(now), length);
        Check.is("its steps behind " + call, x.stepsOf(x.now()), 1);
    }

    private static void typingAndCallsThatThrew() {
        Doc.says("Commands", "(calls that threw are left out of account);");
        String[] calls = {"insert 9", "overwrite 9", "overwrite 'a'", "delete 0", "delete 1", "move 51", "move 50", "search 9", "search '~'",
                "kill 21",
            "kill 1", "yank", "rotate", "copy 4 1", "copy 0 0", "copy 0 1", "paste 4", "paste 1", "setMark 6 left", "clearMark 6", "clearMark 1",
            "jump 6", "jump 1", "narrow 6", "narrow 1", "widen", "run 4 1", "run 0 0", "record 4", "stop", "close", "pass 101", "pass 0", "track 5",
            "redo", "walk 99", "undoIn 0 99", "setBookmark 5", "clearBookmark 5", "setBudget 1", "listen 3 'a' 'b' 0", "listen 0 'a' 'a' 0",
            "unlisten 3", "charAt 99", "parentOf 99", "listenerChain 8"};
        Ed x = Script.run("insert 'a'");
        for (String call : calls) {
            Check.is(call + " throws", threw(x, call), true);
        }
        Script.on(x, "insert 'b'; now = 1; stepsOf 1 = 1; replay 1 = \"ab\"");
        // also behind the last insert(), when listeners go too deep
        Ed y = Script.run("listen 0 'x' 'y' 0; listen 1 'y' 'x' 0; insert 'a'; pass 3; insert 'x' ! DEPTH; insert 'b'; now = 1");
        Script.each("""
            block "b"; to 0; listen 0 'x' 'y' 0; listen 1 'y' 'x' 0; insert 'a'; overwrite 'x' ! DEPTH; insert 'c'; now = 2; stepsOf 2 = 1

            block "bc"; macro 0 "insert 'x'"; to 2; delete 1; to 0; listen 0 'x' 'y' 0; listen 1 'y' 'x' 0; insert 'a'; run 0 1 ! DEPTH
            undoIn 3 3 ! DEPTH; insert 'd'; now = 4; stepsOf 4 = 1; text = "adbc"

            full; to 0; delete 2; to 300; insert 'a'; undoIn 0 0 ! ISE; undoIn 5 5 ! ISE; insert 'b'; now = 4; stepsOf 4 = 1; insert 'c' ! ISE; length = 400
            """);
        Script.on(y, "undo; insert 'c'; now = 2; pass 3; insert 'y' ! DEPTH; pass 1; insert 'd'; now = 3");
    }

    private static boolean threw(Ed x, String call) {
        String[] words = call.replace("'a'", "97").replace("'b'", "98").replace("'~'", "126").replace("left", "0").split(" ");
        int[] arguments = new int[words.length - 1];
        for (int i = 0; i < arguments.length; i++) {
            arguments[i] = Integer.parseInt(words[i + 1]);
        }
        try {
            if (Ed.isQuery(words[0])) {
                x.askHere(words[0], arguments);
            } else {
                x.call(words[0], arguments);
            }
            return false;
        } catch (IndexOutOfBoundsException | IllegalArgumentException | IllegalStateException e) {
            return true;
        }
    }

    private static void typingAndTicks() {
        Doc.says("Commands", "fewer than 4 ticks have passed after that last insert();");
        Script.each("""
            insert 'a'; pass 3; insert 'b'; now = 1

            insert 'a'; pass 4; insert 'b'; now = 2

            insert 'a'; pass 5; insert 'b'; now = 2

            insert 'a'; pass 100; insert 'b'; now = 2

            insert 'a'; pass 1; pass 2; insert 'b'; now = 1; pass 3; insert 'c'; now = 1; pass 1; pass 1; pass 1; insert 'd'; now = 1

            insert 'a'; pass 2; pass 2; insert 'b'; now = 2; pass 3; insert 'c'; now = 2; pass 3; pass 1; insert 'd'; now = 3

            insert 'a'; pass 1; pass 1; pass 1; pass 1; insert 'b'; now = 2

            insert 'a'; pass 3; pass 0 ! IAE; pass 101 ! IAE; insert 'b'; now = 1

            pass 100; insert 'a'; insert 'b'; now = 1

            insert 'a'; repeat 60 "pass 100"; insert 'b'; now = 2; insert 'c'; now = 2
            """);
    }

    private static void typingAndKindsOfCharacters() {
        Doc.says("Commands", "the character inserted by that last insert() and the new one both are letters (A to Z, a to z) or digits, or both are "
                + "not;");
        for (int c = 10; c <= 126; c = c == 10 ? 32 : c + 1) {
            boolean word = c >= 'A' && c <= 'Z' || c >= 'a' && c <= 'z' || c >= '0' && c <= '9';
            Script.run("insert 'm'; insert " + c + "; now = " + (word ? 1 : 2));
            Script.run("insert " + c + "; insert 'm'; now = " + (word ? 1 : 2));
            Script.run("insert '-'; insert " + c + "; now = " + (word ? 2 : 1));
            Script.run("insert " + c + "; insert '-'; now = " + (word ? 2 : 1));
        }
        // it is the last one that counts, not the first
        Script.each("""
            insert 'a'; insert '-'; insert 'b'; now = 3; insert '5'; now = 3; insert 'Z'; now = 3; insert 10; now = 4; insert ' '; now = 4
            """);
    }

    private static void typingAndListeners() {
        Doc.says("Commands", "no listener has made a replacement in this change;");
        Script.each("""
            listen 0 'x' 'y' 0; insert 'x'; text = "y"; stepsOf 1 = 2; insert 'z'; now = 2; insert 'w'; now = 2; stepsOf 2 = 1

            listen 0 'x' 'y' 0; insert 'a'; insert 'x'; now = 1; text = "ay"; stepsOf 1 = 2; insert 'b'; now = 2; stepsOf 1 = 2; stepsOf 2 = 1
            """);
        // the replacement may be of a character that was there before
        Script.run("""
            block "x-"; listen 0 'x' 'y' 0; insert 'a'; now = 2; text = "y-a"; insert 'b'; now = 3; insert 'c'; now = 3
            unlisten 0; to 0; insert 'x'; listen 0 'x' 'y' 0; insert 'd'; now = 5; text = "ydy-abc"; insert 'e'; now = 6
            """);
        // a listener that was notified and found nothing has made none
        Script.run("listen 0 'x' 'y' 0; listen 1 'z' 'y' 1; insert 'a'; insert 'b'; insert 'c'; now = 1; stepsOf 1 = 1");
    }

    private static void typingAndMerges() {
        Doc.says("Commands", "no other change was merged into it.");
        Script.each("""
            insert 'a'; setBudget 2; insert '-'; nodes = 2; now = 2; stepsOf 2 = 2; insert '-'; now = 3; stepsOf 3 = 3; nodes = 2
            """);
        // a merge into another change does not end it
        Script.run("""
            type "a-"; setBookmark 0; setBudget 3 = 0; insert 'b'; now = 3; nodes = 3; parentOf 1 ! IOOBE; stepsOf 2 = 2
            insert 'c'; now = 3; stepsOf 3 = 1; replay 3 = "a-bc"; replay 2 = "a-"
            """);
    }

    private static void extendedInsertion() {
        Doc.says("Commands", "To extend the change means that its insertion has the new character in addition, at its end.");
        Script.run("""
            type "xy"; to 1; type "abc"; now = 2; stepsOf 2 = 1; text = "xabcy"; replay 2 = "xabcy"; replay 1 = "xy"; charByReplay 2 3 = 'c'
            undoIn 4 4 = 3; text = "xy"; stepsOf 3 = 1
            """);
        Script.each("""
            setMark 0 right; setMark 1 left; type "abc"; markByReplay 3 0 = 3; markByReplay 3 1 = 0; walk 0; walk 3; point = 3

            full; to 400; move -2; delete 2; type "ab"; length = 400; insert 'c' ! ISE; stepsOf 4 = 1; lengthByReplay 4 = 400
            """);
    }

    // ---- groups

    private static void groups() {
        Doc.says("Commands", "Groups: open() opens a group and close() closes it.");
        Script.run("close ! ISE; open; open ! ISE; undo ! ISE; close = 0; close ! ISE; open; insert 'a'; close = 1; undo = 0");
    }

    private static void stepsOfGroups() {
        Doc.says("Commands", "The steps of everything in between belong to the group; close() makes one change of them, if there are any.");
        Script.run("""
            block "abc"; macro 0 "setMark 1 left; move 0"; now = 2; open; insert 'd'; insert 'e'; setMark 0 left; to 0; kill 1; track 4; run 0 2
            nodes = 3; now = 2; replay 2 = "abc"; text = "bcde"; close = 3
            stepsOf 3 = 7; nodes = 4; parentOf 3 = 2; replay 3 = "bcde"; storedByReplay 3 4 = 1; undo = 2; text = "abc"; entries 4 = 0
            """);
        Script.each("""
            open; close = 0; nodes = 1; open; move 0; checkpoint; pass 1; setBookmark 0; length = 0; close = 0; nodes = 1

            open; insert 'a'; delete 1 ! ISE; move -1; delete 1; text = ""; close = 1; stepsOf 1 = 2; nodes = 2
            """);
    }
}
