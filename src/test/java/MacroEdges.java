/** The sentences of the sections "Macros" and "Walks". */
final class MacroEdges {
    // in its view each command can be done; the text is cdef, there are two entries of the ring and one of register 0
    private static final String READY = """
        block "abcdef"; to 0; kill 1; kill 1; copy 0 1; to 1; setMark 0 left; setMark 3 right; to 4; setMark 5 left; to 0; narrow 5
        """;

    private static final String[] COMMANDS = {"insert 'x'", "overwrite 'x'", "delete 2", "move 3", "search 'e'", "kill 2", "yank", "rotate",
        "copy 1 3", "paste 0", "setMark 1 right", "clearMark 3", "jump 0", "narrow 3", "widen", "run 3 2", "checkpoint"};

    private MacroEdges() {
    }

    static void all() {
        fourMacros();
        listOf16();
        recordedCommands();
        seventeenthCommand();
        runIsACommand();
        timesAsTold();
        sameAsWhenCalled();
        oneChangeOrTheGroup();
        levels();
        startedCommands();
        failsForACommand();
        failsAtLevel6();
        failsAtThe25th();
        whateverThe25thIs();
        backToTheCheckpoint();
        backToTheLastCheckpoint();
        backToBeforeTheCall();
        stepsSinceThen();
        untrackedStoresKeep();
        walksMakeCurrent();
        walksBringBack();
        walksNotifyNone();
    }

    private static void fourMacros() {
        Doc.says("Macros", "There are the macros 0 to 3, each a list of 0 to 16 commands with their arguments, empty at first.");
        Script.each("""
            commands 0 = 0; commands 1 = 0; commands 2 = 0; commands 3 = 0; commands 4 ! IOOBE; commands -1 ! IOOBE
            run 0 1 = 0; run 3 10 = 0; failureReason = 0; run 4 1 ! IOOBE; run -1 1 ! IOOBE; record 4 ! IOOBE; record -1 ! IOOBE
            record 0; move 0; stop = 1; record 3; stop = 0; commands 0 = 1; commands 1 = 0; commands 3 = 0
            """);
    }

    private static void listOf16() {
        Doc.says("Macros", "each a list of 0 to 16 commands with their arguments");
        Script.each("""
            record 2; repeat 15 "move 0"; stop = 15; commands 2 = 15
            record 3; repeat 16 "move 0"; move 0 ! ISE; stop = 16; commands 3 = 16; run 3 1 = 16
            record 3; stop = 0; commands 3 = 0; commands 2 = 15

            macro 1 "insert 'a'; insert 'b'; insert 'c'; insert 'd'; insert 'e'; insert 'f'; insert 'g'; insert 'h'
                insert 'i'; insert 'j'; insert 'k'; insert 'l'; insert 'm'; insert 'n'; insert 'o'; insert 'p'"
            walk 0; run 1 1 = 16; text = "abcdefghijklmnop"

            block "abcabc"; to 0; macro 0 "copy 2 3; setMark 4 right; setMark 5 left; paste 2; overwrite '!'; search 'c'; delete 2; jump 4"
            text = "abc!bcc"; walk 1; to 0; run 0 1 = 8; text = "abc!bcc"; point = 3; store 2 = "abc"; marks = "-1 -1 -1 -1 3 0"
            insert 'x'; marks = "-1 -1 -1 -1 4 0"
            """);
    }

    private static void recordedCommands() {
        Doc.says("Macros", "Between record() and stop() each command that is called and does not throw is appended to a recorded list; stop() makes "
                + "this list the macro.");
        Script.each("""
            insert 'a'; record 1; insert 'b'; insert 9 ! IAE; move 9 ! ISE; copy 4 1 ! IOOBE; pass 1; open; insert 'c'; close; undo; redo
            track 2; listen 0 'x' 'y' 0; commands 1 = 0; run 1 1 = 0; checkpoint; stop = 4; commands 1 = 4; insert 'd'; commands 1 = 4
            walk 0; run 1 1 = 0; failureReason = TOO_DEEP     # it runs itself now
            record 1; commands 1 = 4; insert 'z'; stop = 1; commands 1 = 1; walk 0; run 1 1 = 1; text = "z"

            # of commands that listeners refuse none is in the list
            block "xab"; to 1; copy 0 1; kill 1; track 4; setMark 0 left; macro 0 "setMark 1 left"; listen 0 'x' 'y' 0; listen 1 'y' 'x' 0; record 2
            insert 'c' ! DEPTH; overwrite 'c' ! DEPTH; delete 1 ! DEPTH; kill 1 ! DEPTH; yank ! DEPTH; paste 0 ! DEPTH; setMark 2 left ! DEPTH
            clearMark 0 ! DEPTH; run 0 1 ! DEPTH; stop = 0

            # and a run that fails is
            block "a"; macro 0 "move -1"; listen 0 'a' 'b' 0; listen 1 'b' 'a' 0
            record 2; insert 'c' ! DEPTH; run 0 1 = 0; failureReason = NOT_ENOUGH; run 0 11 ! IAE; stop = 1
            """);
    }

    private static void seventeenthCommand() {
        Doc.says("Macros", "A command that would be the 17th in the list throws IllegalStateException, whatever it is: the recorded list is full.");
        for (String command : COMMANDS) {
            // the 16th is taken
            Script.run(READY + "record 2; repeat 15 \"move 0\"\n" + command + "; stop = 16");
            Ed x = Script.run(READY + "record 2; repeat 16 \"move 0\"\n" + command + " ! ISE; move 51 ! IAE; setMark 6 left ! IOOBE; stop = 16");
            // it is the list that was full
            Script.on(x, "commands 2 = 16; record 3; " + command + "; stop = 1");
        }
        // it is the list that refuses, before listeners are asked: the chain stays
        for (String command : new String[] {"insert 'a'", "overwrite 'a'", "delete 1", "kill 1", "yank", "paste 0", "setMark 0 left", "run 0 1"}) {
            String chase = "macro 0 \"setMark 1 left\"; block \"abxd\"; to 0; copy 0 1; kill 1; listen 0 'x' 'y' 0; listen 1 'y' 'x' 0\n";
            Script.run(chase + "record 1; repeat 16 \"move 0\"\n" + command + " ! ISE; chain = \"-1 -1 -1 -1 -1 -1 -1 -1\"; stop = 16\n"
                    + command + " ! DEPTH; chain = \"0 1 0 1 0 1 0 1\"; listen 2 'x' 'y' 0; listen 0 'x' 'z' 1; record 1; repeat 16 \"move 0\"\n"
                    + command + " ! ISE; chain = \"0 1 0 1 0 1 0 1\"; stop; " + command + " ! DEPTH; chain = \"2 1 2 1 2 1 2 1\"");
        }
        // calls that are no commands are made all the same
        Script.run(READY + """
            record 2; repeat 16 "move 0"
            pass 1; open; track 0; close; undo; redo; walk 0; setBookmark 0; clearBookmark 0; setBudget 2; unlisten 0; stop = 16
            """);
    }

    private static void runIsACommand() {
        Doc.says("Macros", "run() is a command itself.");
        Script.each("""
            macro 0 "insert 'a'"; record 1; run 0 3 = 3; run 0 1 = 1; stop = 2; walk 0; run 1 1 = 6; text = "aaaa"
            """);
    }

    private static void timesAsTold() {
        Doc.says("Macros", "It executes the commands of a macro one after the other, and this as many times as told.");
        Script.each("""
            macro 0 "insert 'a'; insert 'b'; move -1"
            walk 0; run 0 1 = 3; text = "ab"; point = 1; walk 0; run 0 2 = 6; text = "aabb"; walk 0; run 0 3 = 9; text = "aaabbb"; point = 3

            macro 0 "insert 'a'"; walk 0; run 0 10 = 10; length = 10; run 0 11 ! IAE; run 0 0 ! IAE; run 0 -1 ! IAE; length = 10
            """);
    }

    private static void sameAsWhenCalled() {
        Doc.says("Macros", "A command that is executed by a run does the same as when it is called, except that it is not recorded, makes no change, "
                + "and notifies no listener.");
        Script.each("""
            macro 0 "insert 'a'; insert 'b'; insert 'c'"; walk 0; record 1; run 0 1 = 3; stop = 1; now = 2; nodes = 3; stepsOf 2 = 3

            macro 0 "insert 'x'; move -1; search 'x'"; walk 0; listen 0 'x' 'y' 0
            run 0 1 = 3; text = "y"; stepsOf 2 = 2; failureReason = 0

            macro 0 "insert 'x'; move -1; delete 1"; walk 0; listen 0 'x' 'y' 0; listen 1 'y' 'x' 0
            run 0 1 = 3; text = ""; stepsOf 3 = 2; chain = "-1 -1 -1 -1 -1 -1 -1 -1"
            """);
        // each command, called and executed by a run, on what was made by the same calls
        for (String command : COMMANDS) {
            String before = READY + "record 0; " + command + "; stop; walk 0; " + READY;
            Ed called = Script.run(before + command);
            Ed ran = Script.run(before + "run 0 1");
            Check.is("what has come of " + command, Check.all(ran), Check.all(called));
        }
    }

    private static void oneChangeOrTheGroup() {
        Doc.says("Macros", "The steps of a run that is called (not executed by another run) make one change, or they belong to the open group.");
        Script.each("""
            macro 0 "insert 'a'; setMark 0 left"; macro 1 "run 0 2; insert 'b'; run 0 1"; walk 0; nodes = 6     # 5 changes while recording
            run 1 1 = 9; nodes = 7; now = 6; stepsOf 6 = 7; text = "aaba"; undo = 0; text = ""

            macro 0 "insert 'a'; insert 'b'"; walk 0; open; insert 'c'; run 0 2 = 4; nodes = 2; now = 0; run 0 1; close = 2; nodes = 3
            stepsOf 2 = 7; replay 2 = "cababab"

            macro 0 "move 0; checkpoint"; run 0 5 = 10; nodes = 1; open; run 0 1; close = 0; nodes = 1
            """);
    }

    private static void levels() {
        Doc.says("Macros", "A run that is called has level 1; a run that is executed by a run of level n has level n + 1.");
        Script.each("""
            # a macro that runs itself is executed at the levels 1 to 5
            macro 0 "insert 'a'; checkpoint; run 0 1"; walk 0; run 0 1 = 14; text = "aaaaa"; failureReason = TOO_DEEP; failureCommand = 2

            # runs one after the other are of one level
            macro 0 "insert 'a'"; macro 1 "run 0 1; run 0 1; run 0 1; run 0 1; run 0 1; run 0 1"; macro 2 "run 1 1"; macro 3 "run 2 1"
            walk 0; run 3 1 = 14; failureReason = 0; text = "aaaaaa"

            # one level deeper
            macro 0 "insert 'a'; checkpoint; run 0 1"; macro 1 "run 0 1"; walk 0; run 1 1 = 12; text = "aaaa"; failureReason = TOO_DEEP
            failureCommand = 2; run 0 1 = 14; text = "aaaaaaaaa"
            """);
    }

    private static void startedCommands() {
        Doc.says("Macros", "Each command that is executed is started; the commands started during a run that is called are counted, at all "
                + "levels, runs "
                + "and checkpoints included.");
        Script.each("""
            macro 0 "insert 'a'; checkpoint"; macro 1 "run 0 2; move 0; run 3 9"
            run 1 1 = 7; run 1 2 = 14; run 1 3 = 21; failureReason = 0; run 1 4 = 24; failureReason = TOO_MANY; failureCommand = 0

            macro 0 "checkpoint"; run 0 10 = 10; macro 1 "run 0 10; run 0 10; move 0; move 0"; run 1 1 = 24; failureReason = 0

            # of each call anew
            macro 0 "move 0; move 0; move 0; move 0; move 0; move 0"; run 0 4 = 24; run 0 4 = 24; failureReason = 0; run 0 1 = 6
            """);
    }

    private static void failsForACommand() {
        Doc.says("Macros", "A run that is called fails if a command that is started cannot be done,");
        Script.each("""
            macro 0 "insert 'a'; move -1"; run 0 1 = 2; failureReason = 0; macro 1 "insert 'b'; move -1"; to 0
            record 2; move 0; stop; macro 3 "move 1; move -1"; to 3; run 3 1 = 0; failureReason = NOT_ENOUGH; failureCommand = 300
            to 2; run 3 1 = 2; failureReason = 0; failureCommand = NONE; text = "baa"
            """);
    }

    private static void failsAtLevel6() {
        Doc.says("Macros", "if a run of level 6 would begin,");
        Script.each("""
            macro 0 "run 0 1"; run 0 1 = 0; failureReason = TOO_DEEP; failureCommand = 0; run 0 10 = 0; failureReason = TOO_DEEP

            macro 1 "run 2 1"; macro 2 "run 1 1"
            run 1 1 = 0; failureReason = TOO_DEEP; failureCommand = 100; run 2 1 = 0; failureCommand = 200

            macro 0 "insert 'a'; move -1; run 0 1"; nodes = 2; run 0 1 = 0; failureReason = TOO_DEEP; failureCommand = 2; text = "a"; nodes = 2
            """);
    }

    private static void failsAtThe25th() {
        Doc.says("Macros", "or if a 25th command would be started");
        Script.each("""
            macro 0 "insert 'a'; insert 'b'; insert 'c'; insert 'd'; insert 'e'; insert 'f'"; walk 0
            run 0 4 = 24; failureReason = 0; failureCommand = NONE; length = 24
            run 0 5 = 0; failureReason = TOO_MANY; failureCommand = 0; length = 24

            macro 0 "move 0; move 0; move 0; move 0; move 0"; run 0 4 = 20; failureReason = 0
            run 0 5 = 0; failureReason = TOO_MANY; failureCommand = 4
            """);
    }

    private static void whateverThe25thIs() {
        Doc.says("Macros", "(which is not started then, whatever it is: TOO_MANY).");
        Script.each("""
            # a checkpoint
            macro 0 "checkpoint; move 0; move 0; move 0; move 0; move 0; move 0; move 0"; run 0 3 = 24
            run 0 4 = 17; failureReason = TOO_MANY; failureCommand = 0

            # a run, though of an empty macro
            macro 0 "run 3 1; move 0; move 0; move 0; move 0; move 0; move 0; move 0"; run 0 3 = 24
            run 0 4 = 0; failureReason = TOO_MANY; failureCommand = 0

            # a command that cannot be done
            macro 0 "move 0; move 0; move 0; move 0; move 0; move 0"; block "a"
            macro 1 "run 0 3; move 0; move 0; move 0; move 0; move 0; move -1"; point = 0
            run 1 1 = 0; failureReason = TOO_MANY; failureCommand = 106
            macro 2 "move 1; run 0 3; move 0; move 0; move 0; move -1"; run 2 1 = 24; failureReason = 0

            # the 24th is started
            macro 0 "move 0; move 0; move 0; move 0; move 0; move 0"; block "a"
            macro 1 "run 0 3; move 0; move 0; move 0; move 0; move -1"
            run 1 1 = 0; failureReason = NOT_ENOUGH; failureCommand = 105

            # a run that would have begun the level 6
            macro 0 "move 0; move 0; move 0; move 0; run 0 1"; run 0 1 = 0; failureReason = TOO_MANY; failureCommand = 4

            # and as the 24th
            macro 0 "move 0; move 0; move 0; move 0; run 0 1"; macro 1 "move 0; move 0; move 0; run 0 1"
            run 1 1 = 0; failureReason = TOO_DEEP; failureCommand = 4
            """);
    }

    /** A macro of 16 commands that fails at its last one when there is no z any more; register 0 and the ring are tracked. */
    private static String failing(String eighth) {
        return """
            block "abcdefz"; to 0; track 0; track 4
            macro 0 "setMark 0 left; move 4; narrow 0; move -3; copy 0 1; copy 1 1; delete 1; EIGHTH
                setMark 1 right; copy 0 2; copy 1 2; kill 1; widen; clearMark 0; move 1; search 'z'"
            macro 1 "setMark 4 left; insert 'x'; run 0 1; insert 'y'"
            walk 3; to 6; delete 1; to 0; text = "abcdef"; store 4 = ""
            """.replace("EIGHTH", eighth);
    }

    private static void backToTheCheckpoint() {
        Doc.says("Macros", "When it fails, nothing more is executed, and the text, the marks, the point, the views and the contents of tracked "
                + "stores "
                + "become again what they were when checkpoint() was last executed during this run, at any level,");
        Ed x = Script.run(failing("checkpoint"));
        int nodes = x.nodes();
        Script.on(x, """
            run 0 1 = 8; failureReason = NOT_FOUND; failureCommand = 15; text = "acdef"; marks = "0 -1 -1 -1 -1 -1"; point = 1; view = "0 3"
            store 0 = "b"; store 4 = ""; store 1 = "cd"; widen = 0; view = "0 5"
            """);
        Check.is("one change", x.nodes(), nodes + 1);
        int node = x.now();
        Check.is("setMark, copy and delete are its steps", x.stepsOf(node), 3);
        Script.on(x, """
            replay N = "acdef"; markByReplay N 0 = 0; markByReplay N 1 = NONE; storedByReplay N 0 = 1; storedByReplay N 4 = 0
            to 4; walk N; point = 1
            """.replace("N ", node + " ").replace("N;", node + ";"));
        // the checkpoint is executed at level 2, and then nothing more at level 1 either
        Ed y = Script.run(failing("checkpoint"));
        nodes = y.nodes();
        Script.on(y, """
            run 1 1 = 11; failureCommand = 15; text = "xacdef"; marks = "1 -1 -1 -1 0 -1"; view = "1 4"; point = 2; store 0 = "b"; store 1 = "cd"
            """);
        Check.is("one change", y.nodes(), nodes + 1);
        Check.is("steps", y.stepsOf(y.now()), 5);
    }

    private static void backToTheLastCheckpoint() {
        Doc.says("Macros", "what they were when checkpoint() was last executed during this run, at any level,");
        Script.each("""
            block "abc"; macro 0 "move -1; checkpoint"; to 2; run 0 3 = 4; failureReason = NOT_ENOUGH; failureCommand = 0; point = 0

            block "zc"; to 1; macro 0 "insert 'a'; checkpoint; insert 'b'; checkpoint; move -3; delete 3"; walk 1; to 1
            run 0 1 = 6; failureReason = 0; text = "c"; walk 1; to 0; run 0 1 = 4; failureReason = NOT_ENOUGH; failureCommand = 4; text = "abzc"
            point = 2
            """);
    }

    private static void backToBeforeTheCall() {
        Doc.says("Macros", "or what they were before the call, if it was not.");
        Ed x = Script.run(failing("move 0"));
        Script.on(x, "setMark 2 right; to 5; setMark 3 left; to 1; narrow 3; to 1; copy 0 3");
        int node = x.now();
        // the view begins at 1, so that the macro is executed on bcde
        Script.on(x, """
            run 0 1 = 0; failureReason = NOT_FOUND; failureCommand = 15; text = "abcdef"; marks = "-1 -1 0 5 -1 -1"; point = 1; view = "1 5"
            store 0 = "bcd"; store 4 = ""; store 1 = "de"; widen = 0
            """);
        Check.is("no change", x.now(), node);
        Script.each("""
            # neither a checkpoint that was called nor one of a run that has ended
            block "ab"; to 1; macro 0 "checkpoint"; macro 1 "move -1"; checkpoint; run 0 1 = 1; to 1; checkpoint; run 1 2 = 0; point = 1

            block "ab"; open; macro 0 "move -1; insert 'x'; move -1"; to 1; run 0 2 = 0; failureReason = NOT_ENOUGH; failureCommand = 0
            text = "axb"; point = 1; close = 2; stepsOf 2 = 1

            # another view in the place of the one that was there, the first one and the fourth
            block "abcdef"; to 3; setMark 0 left; to 1; setMark 1 left; to 5; narrow 0; macro 0 "widen; move -1; narrow 1; move -3"; view = "1 4"
            widen; to 5; narrow 0; to 4; run 0 1 = 0; failureCommand = 3; view = "3 5"; point = 4; widen = 0

            block "abcdef"; to 3; setMark 0 left; to 1; setMark 1 left; to 5; narrow 1; narrow 1; narrow 1; narrow 0
            macro 0 "widen; move -1; narrow 1; move -3"; view = "1 4"; widen; to 5; narrow 0; to 4; run 0 1 = 0; failureCommand = 3; view = "3 5"
            point = 4
            widen = 3; view = "1 5"
            """);
    }

    private static void stepsSinceThen() {
        Doc.says("Macros", "The steps since then are not part of any change.");
        Script.each("""
            block "bb"; macro 0 "insert 'a'; checkpoint; insert 'x'; setMark 0 left; move -3"; walk 0; nodes = 5
            run 0 1 = 2; text = "a"; nodes = 6; stepsOf 5 = 1; replay 5 = "a"; undoIn 0 1 = 6; text = ""; stepsOf 6 = 1

            block "b"; macro 0 "insert 'x'; setMark 0 left; move -2"; walk 0; run 0 1 = 0; nodes = 4; now = 0

            block "bb"; macro 0 "insert 'x'; move -3"; walk 0; open; insert 'a'; move -1; run 0 1 = 0; text = "a"; insert 'c'; close = 3
            stepsOf 3 = 2; replay 3 = "ca"; undoIn 0 2 = 4; text = ""; stepsOf 4 = 2

            # nor do they count for an undo in a region
            block "bb"; macro 0 "insert 'x'; insert 'y'; move -4"; walk 0; open; type "abcdefgh"; to 0; run 0 1 = 0; close = 3; stepsOf 3 = 8
            undoIn 0 8 = 4; stepsOf 4 = 8; text = ""

            block "bb"; macro 0 "insert 'x'; checkpoint; insert 'y'; move -4"; walk 0; open; insert 'a'; move -1; run 0 1 = 2; insert 'c'; close = 4
            stepsOf 4 = 3; replay 4 = "xca"
            """);
    }

    private static void untrackedStoresKeep() {
        Doc.says("Macros", "Stores that are not tracked keep their contents.");
        Script.each("""
            block "abcdef"; to 0; kill 1; macro 0 "copy 0 1; copy 3 2; kill 2; rotate; move 3"; walk 2; to 0; delete 1; copy 0 3
            store 0 = "cde"; store 3 = "bc"; store 4 = "a|bc"; text = "cdef"
            run 0 1 = 0; failureReason = NOT_ENOUGH; store 0 = "c"; store 3 = "cd"; store 4 = "a|bc|cd"; text = "cdef"

            block "abcdef"; to 0; macro 0 "copy 0 1; checkpoint; copy 0 2; checkpoint; copy 0 3; move 5; move 1"; to 1; run 0 1 = 4
            store 0 = "bcd"; point = 1
            """);
    }

    // ---- walks

    private static void walksMakeCurrent() {
        Doc.says("Walks", "undo(), redo() and walk() make another node the current node.");
        Script.each("""
            type "a-b"; undo = 2; now = 2; undo = 1; now = 1; redo = 2; now = 2; walk 0 = 2; now = 0; walk 3 = 3; now = 3; nodes = 4
            insert 'c'; parentOf 4 = 3; walk 1; insert 'd'; parentOf 5 = 1; nodes = 6
            """);
    }

    private static void walksBringBack() {
        Doc.says("Walks", "The text, the marks and the contents of tracked stores become those of its state, the point becomes the one that it "
                + "keeps, and "
                + "all views are removed; all this also if walk() is called with the current node.");
        // 1 block, 2 track, 3 mark 0, 4 copy, 5 x, 6 mark 1, 7 copy, 8 delete
        String eight = "block \"abcdef\"; to 2; track 0; setMark 0 right; copy 0 2; insert 'x'; to 1; setMark 1 left; copy 0 1; delete 1; now = 8; ";
        for (String walk : new String[] {"undo = 7", "walk 7 = 1"}) {
            Script.run(eight + "to 3; narrow 0; narrow 0\n" + walk + """
                ; text = "abxcdef"; marks = "3 1 -1 -1 -1 -1"; store 0 = "b"; point = 1; view = "0 7"; widen ! ISE
                """);
        }
        Script.run(eight + """
            to 3; narrow 0; walk 5 = 3; text = "abxcdef"; marks = "3 -1 -1 -1 -1 -1"; store 0 = "cd"; point = 3; widen ! ISE
            insert 'y'; marks = "4 -1 -1 -1 -1 -1"
            """);
        Script.run(eight + "walk 4; to 3; narrow 0; redo = 5; text = \"abxcdef\"; marks = \"3 -1 -1 -1 -1 -1\"; point = 3; view = \"0 7\"; widen "
                + "! ISE");
        Script.run(eight + "walk 3; to 5; narrow 0; redo = 4; store 0 = \"cd\"; point = 2; view = \"0 6\"; walk 2; store 0 = \"\"; marks = \"-1 "
                + "-1 -1 -1 -1 -1\"");
        // with the current node
        Script.run(eight + "to 0; narrow 0; narrow 1; walk 8 = 0; text = \"axcdef\"; point = 1; view = \"0 6\"; widen ! ISE; store 0 = \"b\"; now = 8");
        Script.each("""
            walk 0 = 0; setMark 0 left; narrow 0; walk 1 = 0; widen ! ISE; walk 0; point = 0

            type "ab"; to 0; copy 1 1; walk 1 = 0; point = 2; delete 1 ! ISE; store 1 = "a"
            """);
    }

    private static void walksNotifyNone() {
        Doc.says("Walks", "Walks notify no listener.");
        Script.each("""
            type "x-y"; listen 0 'x' 'z' 0; undo; text = "x-"; redo; text = "x-y"; walk 1; text = "x"; walk 3; text = "x-y"; walk 3; text = "x-y"
            nodes = 4; listen 1 'z' 'x' 0; undo = 2; walk 1 = 1; redo = 2; setMark 0 left ! DEPTH
            """);
    }
}
