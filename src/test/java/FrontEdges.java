/** The sentences ahead of the terms; what stands under "The public face" FaceTest holds against the class. */
final class FrontEdges {
    private FrontEdges() {
    }

    static void all() {
        whatItIs();
        atMost512Calls();
    }

    private static void whatItIs() {
        Doc.says("What it is", "A text editor whose undo history is a tree: marks with gravity, nested narrowing, registers and a kill ring that undo "
                + "can track, keyboard macros with checkpoints, listeners that edit again, undo within a region, and merging of old nodes.");
        Script.each("""
            # a tree
            insert 'a'; undo = 0; insert 'b'; nodes = 3; parentOf 1 = 0; parentOf 2 = 0; redo ! ISE; undo = 0; redo = 2; text = "b"; walk 1 = 2
            text = "a"

            # marks with gravity
            insert 'a'; setMark 0 left; setMark 1 right; insert 'b'; marks = "1 2 -1 -1 -1 -1"

            # nested narrowing
            block "abcdef"; setMark 0 left; to 1; narrow 0 = 1; view = "1 6"; to 3; narrow 0 = 2; view = "3 6"; move -1 ! ISE; widen = 1; move -1 = 2
            move -2 ! ISE; widen = 0; move -2 = 0

            # registers and a kill ring that undo can track
            block "abcd"; to 0; track 0; track 4; copy 0 2 = 0; kill 2 = 1; undo = 4; entries 4 = 0; store 0 = "ab"; undo = 3; entries 0 = 0
            redo = 4; redo = 5; store 0 = "ab"; store 4 = "ab"

            # keyboard macros with checkpoints
            record 3; insert 'a'; checkpoint; insert 'b'; clearMark 0 ! ISE; delete 1 ! ISE; setMark 0 left; clearMark 0; clearMark 0 ! ISE; stop = 5
            walk 0; run 3 1 = 5; text = "ab"; walk 0; run 3 5 = 22; text = "ababababa"; failureReason = TOO_MANY

            # listeners that edit again
            listen 2 'a' 'b' 1; listen 0 'b' 'c' 2; insert 'a' = 1; text = "c"; stepsOf 1 = 3

            # undo within a region
            block "abc"; block "def"; to 1; block "xy"; undoIn 5 6 = 4; text = "axybc"; undoIn 2 2 = 5; text = "abc"

            # merging of old nodes
            insert 'a'; setMark 0 left; setMark 1 left; setMark 2 left; setBudget 2 = 3; nodes = 2; stepsOf 4 = 4; parentOf 4 = 0; text = "a"
            """);
    }

    private static void atMost512Calls() {
        Doc.says("What it is", "An object is used for at most 512 calls after it has been made; what later calls answer is free.");
        Ed nodes = new Ed();
        for (int i = 1; i < Ed.CALLS; i++) {
            Check.is("call " + i, nodes.setMark(i % 6, true), i <= 6 ? Foldback.NONE : 0);
        }
        Check.is("the 512th call", nodes.askHere("now"), 511);

        Ed lastMakesNode = Script.run("repeat 511 \"setMark 0 left\"");
        Check.is("the 512th call makes the node 512 and goes to it", lastMakesNode.setMark(1, true), Foldback.NONE);

        Ed steps = Script.run("open; repeat 254 \"insert 'a'; delete 1 ! ISE\"; close = 1");
        Check.is("the 511th call", steps.askHere("stepsOf", 1), 254);
        Check.is("the 512th call", steps.askHere("length"), 254);

        // at its dearest: each run starts 24 commands, and each has a state of 400 characters
        Ed runs = Script.run("full; to 0; macro 0 \"kill 20; yank; move -20\"; to 0; track 4");
        int made = 0;
        while (runs.callsLeft() > 2) {
            Check.is("run", runs.run(0, 8), 24);
            made++;
        }
        Check.is("the 511th call", runs.askHere("stepsOf", 4 + made), 24);
        Check.is("the 512th call", runs.askHere("charByReplay", 4 + made, 399), 't');
    }
}
