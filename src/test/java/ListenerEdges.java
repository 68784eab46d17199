/** The sentences of the section "Listeners". */
final class ListenerEdges {
    private static final String EMPTY = "chain = \"-1 -1 -1 -1 -1 -1 -1 -1\"; ";

    private ListenerEdges() {
    }

    static void all() {
        threeListeners();
        whatAnActiveOneHas();
        whenTheyAreNotified();
        byRankAndNumber();
        firstCharacterOfTheWholeText();
        oneMoreStepAtTheEnd();
        atOnceBeforeTheNext();
        depths();
        depth8();
        allAsBeforeButTheChain();
        chainStays();
    }

    private static void threeListeners() {
        Doc.says("Listeners", "There are the listeners 0 to 2, inactive at first.");
        Script.run("""
            unlisten 0 = false; unlisten 1 = false; unlisten 2 = false; unlisten 3 ! IOOBE; unlisten -1 ! IOOBE
            listen 3 'a' 'b' 0 ! IOOBE; listen -1 'a' 'b' 0 ! IOOBE; type "ab"; text = "ab"; stepsOf 1 = 1
            listen 0 'a' 'x' 0; listen 2 'b' 'y' 0; setMark 0 left; text = "xy"; listen 1 'x' 'z' 0; setMark 0 left; text = "zy"
            unlisten 0 = true; unlisten 1 = true; unlisten 2 = true; unlisten 2 = false
            """);
    }

    private static void whatAnActiveOneHas() {
        Doc.says("Listeners", "An active listener has a character that it looks for, another character, and a rank.");
        Script.each("""
            listen 0 10 32 0; listen 1 32 126 9; insert 10; charAt 0 = 126; stepsOf 1 = 3; listen 0 126 10 0; unlisten 1; insert '-'; charAt 0 = 10

            listen 0 'a' 'a' 0 ! IAE; listen 0 'a' 'b' -1 ! IAE; listen 0 'a' 'b' 10 ! IAE; listen 0 'a' 'b' 9; insert 'a'; text = "b"
            """);
    }

    private static void whenTheyAreNotified() {
        Doc.says("Listeners", "When a change has all of its steps, just before it is made, and also when typing has extended a change, the active "
                + "listeners are notified,");
        String before = "block \"abcx\"; to 0; copy 0 1; kill 1; to 0; track 1; macro 0 \"setMark 0 left; move 0\"; listen 0 'x' 'y' 0; ";
        String[] changes = {"insert 'z'", "overwrite 'z'", "delete 1", "kill 1", "yank", "paste 0", "copy 1 1", "setMark 0 left", "clearMark 0",
            "run 0 1", "track 2", "open; setMark 1 left; close", "undoIn 0 0"};
        for (String change : changes) {
            Ed x = Script.on(Script.run(before), change);
            Check.is("replaced behind " + change, Check.text(x).indexOf('x') < 0 && Check.text(x).indexOf('y') > 0, true);
            Check.is("steps behind " + change, x.stepsOf(x.now()), 2);
        }
        String[] none = {"move 1", "search 'c'", "copy 0 1", "narrow 0", "jump 0", "checkpoint", "run 1 3", "open; close", "open; setMark 1 left",
            "record 0; stop", "pass 1", "setBookmark 0", "setBudget 2", "listen 1 'x' 'z' 0", "unlisten 1"};
        for (String other : none) {
            Ed x = Script.on(Script.run(before), other);
            Check.is("no change, none notified behind " + other, Check.text(x), "bcx");
        }
        Script.each("""
            listen 0 'x' 'y' 0; type "ab"; insert 'x'; now = 1; text = "aby"; replay 1 = "aby"; stepsOf 1 = 2

            # notified when the change has all of its steps: what came and went in a group is not found
            listen 0 'x' 'y' 0; open; insert 'x'; insert 'a'; to 0; text = "xa"; delete 1; close = 1; stepsOf 1 = 3; text = "a"

            listen 0 'x' 'y' 0; open; type "xx"; text = "xx"; close = 1; text = "yy"; stepsOf 1 = 4; replay 1 = "yy"
            """);
    }

    private static void byRankAndNumber() {
        Doc.says("Listeners", "by increasing rank, those of the same rank by increasing number.");
        Script.each("""
            listen 0 'a' 'x' 2; listen 1 'a' 'y' 1; listen 2 'a' 'z' 0; insert 'a'; text = "z"

            listen 0 'a' 'x' 9; listen 1 'a' 'y' 0; listen 2 'a' 'z' 8; insert 'a'; text = "y"

            listen 0 'a' 'x' 0; listen 1 'a' 'y' 1; listen 2 'a' 'z' 2; insert 'a'; text = "x"

            listen 2 'a' 'z' 5; listen 1 'a' 'y' 5; listen 0 'a' 'x' 5; insert 'a'; text = "x"

            listen 2 'a' 'z' 5; listen 1 'a' 'y' 5; listen 0 'a' 'x' 6; insert 'a'; text = "y"

            listen 0 'b' 'x' 0; listen 1 'a' 'y' 1; listen 2 'a' 'z' 1; insert 'a'; text = "y"

            # each of them is notified, not only the first
            listen 0 'a' 'x' 3; listen 1 'b' 'y' 2; listen 2 'c' 'z' 1; block "abc"; text = "xyz"; stepsOf 1 = 6
            """);
    }

    private static void firstCharacterOfTheWholeText() {
        Doc.says("Listeners", "A listener that is notified replaces the first character of the whole text that it looks for, if there is one, by its "
                + "other character.");
        Script.each("""
            block "-a-"; listen 0 'a' 'b' 0; setMark 0 left; text = "-b-"; stepsOf 2 = 2; setMark 0 left; stepsOf 3 = 1

            block "axxb"; to 4; setMark 0 left; to 3; narrow 0; view = "3 4"; listen 1 'a' 'b' 0; overwrite 'c' = 'b'; text = "bxxc"; view = "3 4"
            point = 4

            block "xxxa"; to 1; setMark 0 left; to 0; narrow 0; listen 2 'a' 'b' 0; insert 'y'; text = "yxxxb"; view = "0 2"; point = 1

            # one after the other, the first one first
            block "aaaaaaaa"; listen 0 'a' 'b' 0; to 7; delete 1; text = "bbbbbbb"; stepsOf 2 = 8

            block "ac"; listen 0 'a' 'b' 0; listen 1 'b' 'd' 1; insert 'b'; text = "dcd"; stepsOf 2 = 4
            """);
    }

    private static void oneMoreStepAtTheEnd() {
        Doc.says("Listeners", "This replacement is one more step of the same change, at its end.");
        Script.each("""
            block "x-"; listen 0 'x' 'y' 0; insert 'a'; nodes = 3; stepsOf 2 = 2; replay 2 = "y-a"; replay 1 = "x-"; undo; text = "x-"; redo = 2
            text = "y-a"

            # at its end: it covers what the change has inserted, and it is the first to be taken back
            block "0123456789"; listen 0 'x' 'y' 0; insert 'x'; now = 2; text = "0123456789y"; undoIn 0 11 ! ISE

            block "x123456789"; to 5; listen 0 'x' 'y' 0; insert 'a'; unlisten 0; undoIn 0 0 = 3; text = "x123456789"; stepsOf 3 = 2
            """);
    }

    private static void atOnceBeforeTheNext() {
        Doc.says("Listeners", "At once, before the next listener is notified, "
                + "all active listeners are notified of this replacement in the same way.");
        Script.each("""
            # listener 0 is notified again before listener 2 is
            listen 0 'b' 'x' 0; listen 1 'a' 'b' 1; listen 2 'b' 'y' 2; insert 'a'; text = "x"; stepsOf 1 = 3

            # all of them, the one that made it too
            block "aaa"; listen 0 'a' 'b' 0; insert '-'; text = "bbb-"; stepsOf 2 = 4

            listen 0 'a' 'b' 9; listen 1 'b' 'c' 5; listen 2 'c' 'd' 0; insert 'a'; text = "d"; stepsOf 1 = 4
            """);
    }

    private static void depths() {
        Doc.says("Listeners", "Notifying of a change has depth 1; notifying of a replacement that was made at depth d has depth d + 1.");
        Script.run("block \"aaaaaa\"; listen 0 'a' 'b' 0; insert 'a'; text = \"bbbbbbb\"; stepsOf 2 = 8; " + EMPTY);
        Script.each("""
            block "aaaaaa"; listen 0 'a' 'b' 0; insert '-'; text = "bbbbbb-"; stepsOf 2 = 7
            """);
        // of each change anew
        Script.run("block \"aaaaaaa\"; listen 0 'a' 'b' 0; insert '-'; insert 'a'; insert 'a'; text = \"bbbbbbb-bb\"; now = 4; " + EMPTY);
    }

    private static void depth8() {
        Doc.says("Listeners", "If a replacement is made at depth 8, the call throws IllegalStateException.");
        Script.each("""
            block "aaaaaaa"; listen 0 'a' 'b' 0; insert 'a' ! DEPTH; chain = "0 0 0 0 0 0 0 0"; insert '-'; text = "bbbbbbb-"

            block "aaaaaaaa"; listen 2 'a' 'b' 9; setMark 0 left ! DEPTH; chain = "2 2 2 2 2 2 2 2"; to 7; overwrite 'c'; text = "bbbbbbbc"

            block "a"; listen 0 'a' 'b' 0; listen 1 'b' 'a' 0; setMark 0 left ! DEPTH; chain = "0 1 0 1 0 1 0 1"
            """);
    }

    private static void allAsBeforeButTheChain() {
        Doc.says("Listeners", "Then everything is as it was before the call, except for the listener chain: its element k, for k from 0 to 7, is the "
                + "number of the listener that made the replacement at depth k + 1.");
        Script.run("""
            block "aaabcdef"; to 3; setMark 0 right; to 6; setMark 1 left; to 3; narrow 1; track 4; copy 1 2; to 4; kill 1; copy 3 1; setBookmark 2
            macro 0 "copy 1 1; copy 3 1; setMark 2 left"; narrow 0; macro 1 "setMark 2 left; widen; widen"; narrow 1; view = "4 5"
            run 1 1 = 0; failureReason = VIEWS; listen 0 'a' 'g' 1; listen 1 'g' 'h' 1; listen 2 'h' 'a' 0
            insert 'z' ! DEPTH; chain = "0 0 0 1 2 0 1 2"     # a is looked for three times, then g, h, a, g, h
            overwrite 'z' ! DEPTH; delete 1 ! DEPTH; kill 1 ! DEPTH; yank ! DEPTH; paste 1 ! DEPTH; setMark 0 left ! DEPTH; clearMark 1 ! DEPTH
            run 0 1 ! DEPTH; run 1 1 = 0; track 1 ! DEPTH; undoIn 4 4 ! DEPTH; open; setMark 3 left; close ! DEPTH; close ! DEPTH; open ! ISE
            unlisten 2; close; text = "hhhbdef"; chain = "0 0 0 1 2 0 1 2"
            """);
        Script.each("""
            block "a"; listen 2 'a' 'b' 3; listen 0 'b' 'c' 4; listen 1 'c' 'b' 5; setMark 5 left ! DEPTH; chain = "2 0 1 0 1 0 1 0"
            listenerChain 0 = 2; listenerChain 7 = 0; listenerChain 8 ! IOOBE; listenerChain -1 ! IOOBE

            # a run that listeners refuse leaves even a register as it was that is not tracked
            block "xabc"; to 1; copy 0 2; macro 0 "copy 0 1; kill 1; setMark 0 left"; listen 0 'x' 'y' 0; listen 1 'y' 'x' 0; to 2; store 0 = "a"
            copy 0 1; run 0 1 ! DEPTH; store 0 = "c"; store 4 = "a"; failureReason = 0
            """);
    }

    private static void chainStays() {
        Doc.says("Listeners", "The chain is empty at first; it stays until another call throws for this reason.");
        Script.run(EMPTY + """
            block "a"; listen 0 'a' 'b' 0; listen 1 'b' 'a' 0; insert '-' ! DEPTH; chain = "0 1 0 1 0 1 0 1"
            move 9 ! ISE; delete 1 ! ISE; insert 9 ! IAE; walk 9 ! IOOBE; unlisten 1; insert '-'; undo; redo; run 0 1; chain = "0 1 0 1 0 1 0 1"
            listen 1 'b' 'a' 0; insert 'c' ! DEPTH; chain = "1 0 1 0 1 0 1 0"; walk 0; chain = "1 0 1 0 1 0 1 0"; insert 'x'
            chain = "1 0 1 0 1 0 1 0"
            """);
    }
}
