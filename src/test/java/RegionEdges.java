/** The sentences of the section "Undo within a region". */
final class RegionEdges {
    // what is typed behind the text, so that a change has too many text steps to be undone itself
    private static final String TAIL = "ABCDEFGHI";

    private RegionEdges() {
    }

    static void all() {
        traces();
        stepsBehindIt();
        stepsOfItsOwnChange();
        stepsOnThePath();
        insertionsBehind();
        deletionsBehind();
        replacementsBehind();
        firstNodeUpToTheRoot();
        regionUndosArePassedOver();
        oneToEightTextSteps();
        coveredTraces();
        tracesInTheRegion();
        oneTraceIsEnough();
        opposites();
        fromTheLastToTheFirst();
        oppositesMoveTraces();
        insertedAgainAtAPlace();
        pointMoves();
        newChange();
    }

    /**
     * A change on 0123456789, whose own insertion can't be undone as it has ten steps, and behind it another one that
     * has too many steps as well.
     */
    private static Ed after(String first, String later) {
        Ed x = Script.run("block \"0123456789\"; to 0; copy 0 2; " + first);
        if (!later.isEmpty()) {
            x.open();
            Script.on(x, later);
            Check.to(x, x.length());
            Check.type(x, TAIL);
            x.close();
        }
        return x;
    }

    /** That the change is undone wherever its traces are, with this text then. */
    private static void undone(String first, String later, String text) {
        Ed x = after(first, later);
        int node = x.now();
        x.undoIn(0, x.length());
        Check.is(first + " | " + later, Check.text(x), later.isEmpty() ? text : text + TAIL);
        Check.is(first + " | " + later, x.parentOf(x.now()), node);
    }

    /** That a trace of the change is covered. */
    private static void covered(String first, String later) {
        Ed x = after(first, later);
        Script.on(x, "undoIn 0 " + x.length() + " ! ISE");
    }

    private static void traces() {
        Doc.says("Undo within a region", "Each text step has a trace: for an insertion the range of the inserted characters, for a replacement "
                + "the range "
                + "of the one character, for a deletion the place where the characters were (a range of length 0).", "Let the trace be from a to b.");
        // the bounds of a range belong to it: one may just reach it from either side
        String[][] bounds = {{"to 4; type \"xyz\"", "4", "7"}, {"to 4; paste 0", "4", "6"}, {"to 4; insert 'x'", "4", "5"}, {"to 4; overwrite 'x'",
                "4", "5"},
            {"to 4; delete 2", "4", "4"}, {"to 4; kill 3", "4", "4"}, {"to 10; insert 'x'", "10", "11"}, {"to 9; overwrite 'x'", "9", "10"},
            {"to 0; delete 1", "0", "0"}};
        for (String[] b : bounds) {
            reached(b[0], Integer.parseInt(b[1]), Integer.parseInt(b[2]));
        }
    }

    private static void reached(String change, int a, int b) {
        int length = after(change, "").length();
        int[][] regions = {{0, a, 1}, {a, a, 1}, {b, b, 1}, {b, length, 1}, {0, length, 1}, {a, b, 1}, {0, a - 1, 0}, {a - 1, a - 1, 0},
            {b + 1, length, 0}, {b + 1, b + 1, 0}, {(a + b) / 2, (a + b) / 2, 1}};
        for (int[] r : regions) {
            if (r[0] < 0 || r[1] < r[0] || r[1] > length) {
                continue;
            }
            Ed x = after(change, "");
            Script.on(x, "undoIn " + r[0] + " " + r[1] + (r[2] == 1 ? " = 3; text = \"0123456789\"" : " ! ISE"));
        }
    }

    private static void stepsBehindIt() {
        Doc.says("Undo within a region", "The steps behind it on the path from the root to the current node, in its own change and in later ones, "
                + "move the "
                + "trace or cover it.");
        undone("to 4; type \"xyz\"", "", "0123456789");
        undone("to 4; type \"xyz\"", "to 0; insert 'a'; insert 'b'; delete 1; delete 1", "ab23456789");
        covered("to 4; type \"xyz\"", "to 0; insert 'a'; to 5; delete 1");
        // several changes behind it
        Script.each("""
            block "0123456789"; to 4; type "xyz"; to 0; insert '-'; insert 'a'; to 9; overwrite '!'; to 3; delete 1; text = "-a023xyz!56789"
            undoIn 4 6 = 7; text = "-a023!56789"
            """);
    }

    private static void stepsOfItsOwnChange() {
        Doc.says("Undo within a region", "in its own change and in later ones,");
        undone("open; to 4; insert 'x'; to 4; insert 'y'; close", "", "0123456789");
        undone("open; to 4; insert 'x'; insert 'y'; to 5; insert 'z'; close", "", "0123456789");
        undone("open; to 4; insert 'x'; to 0; delete 1; to 8; overwrite '!'; close", "", "0123456789");
        covered("open; to 4; paste 0; to 5; insert 'z'; close", "");
        covered("open; to 4; delete 1; insert 'z'; close", "");
        covered("open; to 4; insert 'x'; to 4; overwrite 'y'; close", "");
        covered("open; to 4; overwrite 'x'; to 4; overwrite 'y'; close", "");
        covered("open; to 4; insert 'x'; to 4; delete 1; close", "");
        covered("open; to 4; delete 1; to 3; delete 2; close", "");
        // the steps ahead of it do neither
        undone("open; to 0; insert 'a'; to 5; overwrite 'x'; close", "", "0123456789");
        undone("open; to 7; overwrite 'x'; to 4; delete 1; close", "", "0123456789");
    }

    private static void stepsOnThePath() {
        Doc.says("Undo within a region", "on the path from the root to the current node,");
        Script.each("""
            # what covers the trace is on another path
            block "0123456789"; to 4; type "xyz"; to 5; insert '!'; walk 2; undoIn 5 5 = 4; parentOf 4 = 2; text = "0123456789"

            block "0123456789"; to 4; type "xyz"; to 5; delete 2; walk 2; to 0; insert 'a'; undoIn 7 7 = 5; text = "a0123456789"; walk 3
            undoIn 0 3 ! ISE; undoIn 5 5 = 6; text = "0123xyz456789"
            """);
    }

    private static void insertionsBehind() {
        Doc.says("Undo within a region", "An insertion of k characters at q: if q is less than a, or if q is a and a is less than b, the trace "
                + "moves by k; if "
                + "q is greater than a and less than b, or if q is a and a is b, it is covered; otherwise it stays.");
        // 0123xyz456789, the trace from 4 to 7
        String typed = "to 4; type \"xyz\"";
        undone(typed, "to 0; paste 0", "010123456789");
        undone(typed, "to 3; paste 0", "012013456789");
        undone(typed, "to 4; paste 0", "012301456789");
        covered(typed, "to 5; paste 0");
        covered(typed, "to 6; paste 0");
        undone(typed, "to 7; paste 0", "012301456789");
        undone(typed, "to 8; paste 0", "012340156789");
        // 01236789, the trace is the place 4
        String deleted = "to 4; delete 2";
        undone(deleted, "to 0; paste 0", "010123456789");
        undone(deleted, "to 3; paste 0", "012013456789");
        covered(deleted, "to 4; paste 0");
        covered(deleted, "to 4; insert '!'");
        undone(deleted, "to 5; paste 0", "012345601789");
        // 0123x56789, the trace from 4 to 5
        String replaced = "to 4; overwrite 'x'";
        undone(replaced, "to 3; paste 0", "012013456789");
        undone(replaced, "to 4; paste 0", "012301456789");
        undone(replaced, "to 5; paste 0", "012340156789");
        undone("to 10; type \"xy\"", "to 12; insert '!'", "0123456789!");
        undone("to 0; type \"xy\"", "to 0; insert '!'", "!0123456789");
    }

    private static void deletionsBehind() {
        Doc.says("Undo within a region", "A deletion of the k characters from q on: if q + k is not greater than a, the trace moves back by k; if "
                + "q is not "
                + "less than b, it stays; otherwise it is covered.");
        String typed = "to 4; type \"xyz\"";
        undone(typed, "to 1; delete 2", "03456789");
        undone(typed, "to 2; delete 2", "01456789");
        covered(typed, "to 3; delete 2");
        covered(typed, "to 4; delete 1");
        covered(typed, "to 4; delete 3");
        covered(typed, "to 3; delete 5");
        covered(typed, "to 5; delete 1");
        covered(typed, "to 6; delete 1");
        covered(typed, "to 6; delete 2");
        undone(typed, "to 7; delete 2", "01236789");
        undone(typed, "to 8; delete 2", "01234789");
        String deleted = "to 4; delete 2";
        undone(deleted, "to 1; delete 2", "03456789");
        undone(deleted, "to 2; delete 2", "01456789");
        undone(deleted, "to 3; delete 1", "012456789");
        covered(deleted, "to 3; delete 2");
        covered(deleted, "to 2; delete 3");
        undone(deleted, "to 4; delete 2", "01234589");
        undone(deleted, "to 5; delete 2", "01234569");
        String replaced = "to 4; overwrite 'x'";
        undone(replaced, "to 2; delete 2", "01456789");
        covered(replaced, "to 3; delete 2");
        covered(replaced, "to 4; delete 1");
        covered(replaced, "to 3; delete 3");
        undone(replaced, "to 5; delete 2", "01234789");
    }

    private static void replacementsBehind() {
        Doc.says("Undo within a region",
                "A replacement at index q: the trace is covered if q is not less than a and less than b; otherwise it stays.");
        String typed = "to 4; type \"xyz\"";
        undone(typed, "to 3; overwrite '!'", "012!456789");
        covered(typed, "to 4; overwrite '!'");
        covered(typed, "to 5; overwrite '!'");
        covered(typed, "to 6; overwrite 'z'");
        undone(typed, "to 7; overwrite '!'", "0123!56789");
        String deleted = "to 4; delete 2";
        undone(deleted, "to 3; overwrite '!'", "012!456789");
        undone(deleted, "to 4; overwrite '!'", "012345!789");
        String replaced = "to 4; overwrite 'x'";
        undone(replaced, "to 3; overwrite '!'", "012!456789");
        covered(replaced, "to 4; overwrite '!'");
        undone(replaced, "to 5; overwrite '!'", "01234!6789");
    }

    private static void firstNodeUpToTheRoot() {
        Doc.says("Undo within a region", "undoIn(from, to) looks, from the current node up to the root, for the first node");
        Script.each("""
            undoIn 0 0 ! ISE

            type "ab-"; undoIn 2 2 = 3; text = "ab"; undoIn 2 2 = 4; text = ""; undoIn 0 0 ! ISE

            # not a node below the current one
            type "ab-"; walk 1; undoIn 0 2 = 3; parentOf 3 = 1; text = ""; walk 2; undoIn 0 1 = 4; text = "-"

            block "0123456789"; to 2; insert 'a'; to 5; insert 'b'; to 8; insert 'c'; undoIn 0 13 = 5; text = "01a23b456789"; undoIn 0 12 = 6
            text = "01a23456789"; undoIn 0 11 = 7; text = "0123456789"; undoIn 0 10 ! ISE
            """);
    }

    private static void regionUndosArePassedOver() {
        Doc.says("Undo within a region", "whose change is not a region undo,");
        Script.each("""
            type "ab"; to 0; type "cd"; undoIn 0 1 = 3; text = "ab"; undoIn 0 2 = 4; text = ""; undoIn 0 0 ! ISE; now = 4; undo = 3; undo = 2
            text = "cdab"; undoIn 0 0 = 5; parentOf 5 = 2

            # a region undo with a replacement of a listener is one too
            block "0123456789"; to 5; type "ab"; to 0; listen 0 '9' '!' 0; undoIn 5 5 = 3; stepsOf 3 = 2; undoIn 0 10 ! ISE

            # and what track() makes is none
            block "0123456x89"; listen 0 'x' 'y' 0; track 0; stepsOf 2 = 2; text = "0123456y89"; unlisten 0; undoIn 7 7 = 3; text = "0123456x89"
            """);
    }

    private static void oneToEightTextSteps() {
        Doc.says("Undo within a region", "has 1 to 8 text steps,");
        Script.each("""
            block "abcdefgh"; undoIn 0 0 = 2; text = ""; stepsOf 2 = 8

            block "abcdefghi"; undoIn 0 9 ! ISE

            # none: passed over
            insert 'a'; setMark 0 left; track 0; clearMark 0; undoIn 0 0 = 5; text = ""; stepsOf 5 = 1

            # nine: passed over
            block "abcdefgh"; block "ijklmnopq"; undoIn 0 17 = 3; text = "ijklmnopq"

            # other steps do not count
            track 0; open; type "abc"; setMark 0 left; to 0; copy 0 1; clearMark 0; type "defgh"; setMark 1 left; close = 2; stepsOf 2 = 12
            undoIn 8 8 = 3; stepsOf 3 = 8; text = ""
            """);
    }

    private static void coveredTraces() {
        Doc.says("Undo within a region", "has no covered trace,");
        covered("open; to 4; insert 'x'; to 8; insert 'y'; close", "to 4; overwrite '!'");
        covered("open; to 4; insert 'x'; to 8; insert 'y'; close", "to 8; delete 1");
        undone("open; to 4; insert 'x'; to 8; insert 'y'; close", "to 6; insert '!'", "01234!56789");
        Script.each("""
            # passed over for one that has none
            block "0123456789"; to 8; insert 'a'; to 3; type "xyz"; open; to 4; overwrite '!'; to 14; type "ABCDEFGHI"; close; undoIn 0 14 = 5
            text = "012x!z3456789ABCDEFGHI"
            """);
    }

    private static void tracesInTheRegion() {
        Doc.says("Undo within a region", "and has a trace with a not greater than to and b not less than from.");
        Script.each("""
            # a trace from 4 to 6, and one of a later change from 6 to 8: the place 6 belongs to both
            block "0123456789"; to 4; type "ab"; move 0; type "cd"; text = "0123abcd456789"
            undoIn 6 6 = 4; text = "0123ab456789"; undo; undoIn 5 5 = 5; text = "0123cd456789"; undo; undoIn 0 5 = 6; text = "0123cd456789"; undo
            undoIn 0 6 = 7; text = "0123ab456789"; undo; undoIn 4 4 = 8; text = "0123cd456789"; undo; undoIn 3 3 ! ISE; undoIn 0 3 ! ISE
            undoIn 8 8 = 9; text = "0123ab456789"; undo; undoIn 9 9 ! ISE; undoIn 9 14 ! ISE; undoIn 7 7 = 10; text = "0123ab456789"

            # places
            block "0123456789"; to 4; delete 1; undoIn 3 3 ! ISE; undoIn 0 3 ! ISE; undoIn 5 5 ! ISE; undoIn 5 9 ! ISE; undoIn 4 4 = 3; undo
            undoIn 3 4 = 4; undo; undoIn 4 5 = 5; text = "0123456789"
            """);
    }

    private static void oneTraceIsEnough() {
        Doc.says("Undo within a region", "has a trace with");
        // traces from 2 to 3 and from 6 to 7, and the place 9
        String change = "block \"0123456789\"; open; to 2; insert 'a'; to 6; overwrite 'b'; to 9; delete 1; close; text = \"01a234b679\"; ";
        for (String region : new String[] {"0 2", "2 2", "3 3", "3 5", "4 6", "6 6", "7 7", "7 8", "9 9", "9 10", "0 10"}) {
            Script.run(change + "undoIn " + region + " = 3; text = \"0123456789\"; stepsOf 3 = 3");
        }
        for (String region : new String[] {"0 1", "4 5", "8 8", "10 10"}) {
            Script.run(change + "undoIn " + region + " ! ISE");
        }
    }

    private static void opposites() {
        Doc.says("Undo within a region", "the opposite is done where its trace is: inserted characters are deleted, deleted characters are "
                + "inserted again, a "
                + "replaced character is replaced by the one that was there.");
        undone("to 4; type \"xyz\"", "to 0; insert '!'", "!0123456789");
        undone("to 4; delete 3", "to 0; insert '!'", "!0123456789");
        undone("to 4; kill 3", "to 7; insert '!'", "0123456789!");
        undone("to 4; overwrite 'x'", "to 0; insert '!'", "!0123456789");
        undone("to 4; overwrite '4'", "to 0; insert '!'", "!0123456789");
        undone("to 4; paste 0", "to 0; insert '!'", "!0123456789");
        Script.each("""
            # marks and tracked stores are not set back
            block "0123456789"; track 4; to 4; open; setMark 0 left; setMark 1 right; kill 3; copy 0 1; setMark 2 right; close = 3; stepsOf 3 = 5
            undoIn 4 4 = 4; text = "0123456789"; stepsOf 4 = 1; store 4 = "456"; marks = "4 7 7 -1 -1 -1"; storedByReplay 4 4 = 3
            """);
    }

    private static void fromTheLastToTheFirst() {
        Doc.says("Undo within a region", "Then, for each text step of this change, from the last one to the first one,");
        undone("open; to 4; insert 'x'; to 4; insert 'y'; to 6; insert 'z'; to 0; delete 1; to 0; overwrite '!'; close", "", "0123456789");
        undone("open; to 4; delete 1; to 3; delete 1; to 2; delete 1; to 2; delete 2; close", "", "0123456789");
        undone("open; to 4; delete 1; delete 1; delete 1; delete 1; close", "", "0123456789");
        undone("open; to 4; delete 1; to 3; delete 1; to 3; delete 1; to 2; delete 1; close", "", "0123456789");
        undone("open; to 4; delete 1; to 0; insert 'a'; to 4; delete 1; to 0; insert 'b'; close", "", "0123456789");
        Script.each("""
            # with 400 characters: what is taken away first makes room for what is inserted again
            full; to 200; open; delete 1; to 100; insert 'x'; close = 3; length = 400; undoIn 100 100 = 4; length = 400; charAt 100 = 'a'
            charAt 200 = 'a'

            # and here it is inserted again first
            full; to 0; delete 1; to 200; open; insert 'x'; to 100; delete 1; close = 4; to 0; insert 'z'; length = 400; undoIn 101 101 ! ISE

            full; to 200; open; overwrite 'x'; to 100; delete 1; to 50; insert 'y'; close = 3; length = 400; undoIn 50 50 = 4; length = 400
            charAt 50 = 'k'; charAt 100 = 'a'; charAt 200 = 'a'
            """);
    }

    private static void oppositesMoveTraces() {
        Doc.says("Undo within a region", "Each opposite moves the traces of the steps ahead of it in the change as described above,");
        // an insertion and a deletion that are taken back ahead of a trace, at its two ends, and behind it
        undone("open; to 4; paste 0; to 2; insert 'x'; close", "", "0123456789");
        undone("open; to 4; paste 0; to 4; insert 'x'; close", "", "0123456789");
        undone("open; to 4; paste 0; to 6; insert 'x'; close", "", "0123456789");
        undone("open; to 4; paste 0; to 8; insert 'x'; close", "", "0123456789");
        undone("open; to 4; paste 0; to 1; delete 2; close", "", "0123456789");
        undone("open; to 4; paste 0; to 2; delete 2; close", "", "0123456789");
        undone("open; to 4; paste 0; to 6; delete 2; close", "", "0123456789");
        undone("open; to 4; paste 0; to 8; delete 2; close", "", "0123456789");
        undone("open; to 4; delete 1; to 2; insert 'x'; close", "", "0123456789");
        undone("open; to 4; delete 1; to 5; insert 'x'; close", "", "0123456789");
        undone("open; to 4; delete 1; to 1; delete 2; close", "", "0123456789");
        undone("open; to 4; delete 1; to 5; delete 2; close", "", "0123456789");
        undone("open; to 4; overwrite 'x'; to 2; insert 'y'; to 0; delete 1; to 6; insert 'z'; close", "", "0123456789");
        // what lay between two traces has gone since
        undone("open; to 2; paste 0; to 7; paste 0; close", "to 4; delete 3", "0156789");
        undone("open; to 7; paste 0; to 2; paste 0; close", "to 4; delete 5", "01789");
        undone("open; to 2; paste 0; to 7; delete 1; close", "to 4; delete 3", "0156789");
        undone("open; to 2; overwrite 'x'; to 7; delete 1; close", "to 3; delete 4", "012789");
        undone("open; to 7; overwrite 'x'; to 2; delete 1; close", "to 2; delete 4", "012789");
    }

    private static void insertedAgainAtAPlace() {
        Doc.says("Undo within a region", "with one exception: if characters of a deletion are inserted again at the very place of a trace of "
                + "length 0, this "
                + "trace moves by their number if that deletion had moved it back, and otherwise it stays.");
        undone("open; to 6; delete 1; to 4; delete 2; close", "", "0123456789");
        undone("open; to 4; delete 1; to 4; delete 2; close", "", "0123456789");
        undone("open; to 6; delete 2; to 4; delete 2; to 3; delete 1; to 3; delete 1; close", "", "0123456789");
        // the places have met since: of 3 and 6, where the later deletion moved nothing, and of 6 and 3, where it did
        undone("open; to 3; delete 1; to 5; delete 1; close", "to 3; delete 2", "01236789");
        undone("open; to 6; delete 1; to 3; delete 1; close", "to 3; delete 2", "01236789");
        undone("open; to 3; delete 2; to 5; delete 2; close", "to 3; delete 2", "01234789");
        // it is by that deletion that it must have been moved back, not by another one
        undone("open; to 6; delete 1; to 1; delete 1; to 5; delete 1; close", "", "0123456789");
        undone("open; to 6; delete 1; to 6; delete 1; to 1; delete 1; close", "", "0123456789");
        undone("open; to 6; delete 1; to 4; delete 2; to 4; delete 1; close", "", "0123456789");
        // nor by one of a change that was undone before
        Script.each("""
            block "abcdefghi"; to 3; open; delete 1; to 2; delete 1; close; undoIn 2 2; text = "abcdefghi"
            walk 1; to 2; open; delete 1; delete 1; close; text = "abefghi"; undoIn 2 2; text = "abcdefghi"
            """);
        // a trace of some length moves as described above
        undone("open; to 6; insert 'x'; to 4; delete 2; close", "", "0123456789");
        undone("open; to 6; overwrite 'x'; to 4; delete 2; close", "", "0123456789");
        undone("open; to 4; insert 'x'; to 5; delete 2; close", "", "0123456789");
        // and one that is not at the very place
        undone("open; to 7; delete 1; to 4; delete 2; close", "", "0123456789");
        undone("open; to 4; delete 1; to 5; delete 2; close", "", "0123456789");
    }

    private static void pointMoves() {
        Doc.says("Undo within a region", "The point moves like a mark with left gravity.");
        String deleted = "block \"0123456789\"; to 4; delete 2; ";
        Script.run(deleted + "to 4; undoIn 4 4; point = 4");
        Script.run(deleted + "to 5; undoIn 4 4; point = 7");
        Script.run(deleted + "to 3; undoIn 4 4; point = 3");
        Script.run(deleted + "to 4; undoIn 4 4; to 0; walk 3; point = 4");
        String typed = "block \"0123456789\"; to 4; type \"ab\"; ";
        for (int[] p : new int[][] {{3, 3}, {4, 4}, {5, 4}, {6, 4}, {7, 5}, {12, 10}}) {
            Script.run(typed + "to " + p[0] + "; undoIn 4 4; point = " + p[1]);
        }
        Script.each("""
            block "0123456789"; to 4; overwrite 'x'; to 4; undoIn 4 4; point = 4; undo; to 5; undoIn 4 4; point = 5
            """);
    }

    private static void newChange() {
        Doc.says("Undo within a region", "These opposites are the steps of a new change, which is a region undo.");
        Script.each("""
            block "0123456789"; open; to 4; insert 'x'; setMark 0 left; to 8; delete 1; close; nodes = 3; undoIn 4 4 = 3; nodes = 4; stepsOf 3 = 2
            parentOf 3 = 2; replay 3 = "0123456789"; undoIn 0 10 ! ISE; undo = 2; text = "0123x45689"

            # undone itself by a walk, and not by another undoIn; as text steps its steps move traces
            type "abc"; to 1; insert 'x'; undoIn 2 2 = 3; text = "abc"; undoIn 0 3 ! ISE; walk 1; undoIn 1 1 = 4; text = ""

            block "0123456789"; to 8; insert 'y'; to 2; type "ab"; undoIn 2 2 = 4; text = "01234567y89"; undoIn 8 8 = 5; text = "0123456789"
            """);
    }
}
