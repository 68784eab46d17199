/** The sentences of the sections "Terms" and "Changes and nodes". */
final class TermEdges {
    private static final int[] GOOD_CHARACTERS = {10, 32, 33, 65, 125, 126};
    private static final int[] BAD_CHARACTERS = {9, 11, 31, 127, 128, 0, -1, -10, 266, Integer.MIN_VALUE, Integer.MAX_VALUE};

    private TermEdges() {
    }

    static void all() {
        last512thCall();
        anyNodeToAnyOther();
        textOf400();
        characters();
        indices();
        places();
        lines();
        pointAtFirst();
        sixMarks();
        marksAtFirst();
        insertionMovesMarks();
        deletionMovesMarks();
        replacementMovesNoMark();
        fiveKindsOfSteps();
        threeKindsOfTextSteps();
        root();
        otherNodes();
        stateOfNode();
        pointOfNode();
        currentNodeAtFirst();
        numbersOfNodes();
    }

    private static void last512thCall() {
        Doc.says("What it is", "An object is used for at most 512 calls after it has been made;");
        Ed x = new Ed();
        for (int i = 0; i < 255; i++) {
            Check.is("insert", x.insert('a'), 1);
            Check.is("undo", x.undo(), 0);
        }
        Check.is("the 511th call", x.insert('b'), 1);
        // each as the 512th
        Script.on(x, "now = 256; nodes = 257; text = \"b\"; newestChild 0 = 256; replay 1 = \"a\"; replay 255 = \"a\"; parentOf 255 = 0");
    }

    private static void anyNodeToAnyOther() {
        Doc.says("Terms", "Each state that was reached is a node of the tree, one walk leads from any node to any other one, and the state "
                + "of a node can also be found by replaying all changes on the path from the root.");
        // 1 a, 2 a-, 3 a-b, 4 with mark 0 at 3; below 1 also 5 ac, 6 ac-; below 2 also 7 a-d
        Ed x = Script.run("type \"a-b\"; setMark 0 right; walk 1; insert 'c'; insert '-'; walk 2; insert 'd'; now = 7");
        String[] texts = {"", "a", "a-", "a-b", "a-b", "ac", "ac-", "a-d"};
        for (int from = 0; from < texts.length; from++) {
            for (int to = 0; to < texts.length; to++) {
                x.walk(from);
                x.walk(to);
                Check.is("text of " + to, Check.text(x), texts[to]);
                Check.is("replay of " + to, Check.replay(x, to), texts[to]);
                Check.is("mark in " + to, x.markAt(0), to == 4 ? 3 : -1);
                Check.is("mark by replay in " + to, x.markByReplay(to, 0), to == 4 ? 3 : -1);
            }
        }
    }

    // ---- text, places, marks

    private static void textOf400() {
        Doc.says("Terms", "The text is a sequence of at most 400 characters, empty at first.", "Text, places, marks");
        Script.run("""
            length = 0; text = ""; lengthByReplay 0 = 0
            full
            length = 400; insert 'z' ! ISE; paste 0 ! ISE
            charAt 399 = 't'; charAt 400 ! IOOBE
            to 0; delete 1 = 399; insert 'z' = 400; insert 'z' ! ISE
            length = 400; charAt 0 = 'z'; charAt 399 = 't'; lengthByReplay 4 = 400
            """);
    }

    private static void characters() {
        Doc.says("Terms", "A character is a number: 10 (line feed) or 32 to 126.");
        Ed x = Script.run("insert 'a'; insert 'b'; to 0");
        for (int good : GOOD_CHARACTERS) {
            Script.on(x, "insert " + good + "; overwrite " + good + "; to 0; charAt 0 = " + good + "; charAt 1 = " + good
                    + "; search " + good + " = 1; delete 1; to 0");
        }
        for (int bad : BAD_CHARACTERS) {
            Script.on(x, "insert " + bad + " ! IAE; overwrite " + bad + " ! IAE; search " + bad + " ! IAE");
            Script.on(x, "listen 0 " + bad + " 'a' 0 ! IAE; listen 0 'a' " + bad + " 0 ! IAE");
        }
    }

    private static void indices() {
        Doc.says("Terms", "The characters have the indices 0 to length - 1.");
        Script.run("""
            charAt 0 ! IOOBE; charByReplay 0 0 ! IOOBE
            block "abc"
            charAt 0 = 'a'; charAt 1 = 'b'; charAt 2 = 'c'; charAt 3 ! IOOBE; charAt -1 ! IOOBE
            charByReplay 1 0 = 'a'; charByReplay 1 2 = 'c'; charByReplay 1 3 ! IOOBE; charByReplay 1 -1 ! IOOBE
            """);
    }

    private static void places() {
        Doc.says("Terms", "Place p, 0 to length, lies ahead of the character with index p; place length lies behind the last character.");
        Script.run("""
            block "abc"
            to 0; move -1 ! ISE; overwrite 'x' = 'a'; overwrite 'y' = 'b'; point = 2
            delete 1 = 2; text = "xy"; point = 2
            move 1 ! ISE; overwrite 'z' ! ISE; delete 1 ! ISE
            insert 'd' = 3; text = "xyd"
            lineOf 3 = 0; lineOf 4 ! IOOBE; lineOf -1 ! IOOBE; undoIn 3 3 = 6; text = "xy"; undoIn 0 3 ! IAE
            """);
    }

    private static void lines() {
        Doc.says("Terms", "Lines are numbered from 0; a line feed ends its line, so that there is one line more than there are line feeds.");
        Script.run("""
            lines = 1; lineOf 0 = 0; lineStart 0 = 0; lineStart 1 ! IOOBE; lineStart -1 ! IOOBE
            insert 10; lines = 2; lineOf 0 = 0; lineOf 1 = 1
            lineStart 0 = 0; lineStart 1 = 1; lineStart 2 ! IOOBE
            type "ab"; lines = 2; lineOf 3 = 1
            insert 10; insert 10; lines = 4     # line feeds at 0, 3 and 4
            lineOf 3 = 1; lineOf 4 = 2; lineOf 5 = 3; lineStart 2 = 4; lineStart 3 = 5; lineStart 4 ! IOOBE
            to 0; overwrite 'c' = 10; lines = 3; lineStart 1 = 4
            """);
    }

    private static void pointAtFirst() {
        Doc.says("Terms", "The point is a place, 0 at first.");
        Script.run("point = 0; insert 'a'; point = 1; move 1 ! ISE; move -1 = 0; move -1 ! ISE");
    }

    private static void sixMarks() {
        Doc.says("Terms", "There are the marks 0 to 5.");
        Ed x = Script.run("block \"abc\"");
        for (int mark = 0; mark <= 5; mark++) {
            String m = " " + mark;
            Script.on(x, "setMark" + m + " left = NONE; markAt" + m + " = 3; jump" + m + " = 3; narrow" + m + " = 1; widen = 0");
            Script.on(x, "clearMark" + m + " = 3; setMark" + m + " right = NONE");
        }
        Script.on(x, "marks = \"3 3 3 3 3 3\"");
        for (String bad : new String[] {" 6", " -1", " 7", " MIN", " MAX"}) {
            Script.on(x, "setMark" + bad + " left ! IOOBE; clearMark" + bad + " ! IOOBE; jump" + bad + " ! IOOBE; narrow" + bad + " ! IOOBE");
            Script.on(x, "markAt" + bad + " ! IOOBE; markByReplay 0" + bad + " ! IOOBE");
        }
    }

    private static void marksAtFirst() {
        Doc.says("Terms", "A mark is unset, as at first, or it is at a place and has left or right gravity.");
        Script.run("""
            marks = "-1 -1 -1 -1 -1 -1"; markByReplay 0 0 = NONE; markByReplay 0 5 = NONE
            setMark 0 left = NONE; setMark 5 right = NONE; marks = "0 -1 -1 -1 -1 0"
            insert 'a'; marks = "0 -1 -1 -1 -1 1"
            clearMark 5 = 1; clearMark 5 ! ISE; clearMark 1 ! ISE; marks = "0 -1 -1 -1 -1 -1"
            to 0; insert 'b'; delete 1; marks = "0 -1 -1 -1 -1 -1"
            """);
    }

    private static void insertionMovesMarks() {
        Doc.says("Terms", "When k characters are inserted at place q, each mark beyond q moves by k, and each mark at q with right gravity "
                + "moves to q + k.");
        String marks = "block \"0123456789\"; to 0; copy 0 3; to 3; setMark 0 right; to 4; setMark 1 left; setMark 2 right; "
                + "to 5; setMark 3 left; setMark 4 right; to 10; setMark 5 left; to 4; ";
        Script.run(marks + "paste 0; marks = \"3 4 7 8 8 13\"; markByReplay 8 1 = 4; markByReplay 8 2 = 7; markByReplay 8 3 = 8; markByReplay 8 5 "
                + "= 13");
        Script.run(marks + "insert 'x'; marks = \"3 4 5 6 6 11\"");
        Script.run(marks + "to 3; paste 0; marks = \"6 7 7 8 8 13\"");
        Script.run(marks + "to 5; paste 0; marks = \"3 4 4 5 8 13\"");
        Script.run(marks + "to 10; paste 0; marks = \"3 4 4 5 5 10\"");
        Script.each("""
            setMark 0 left; setMark 1 right; insert 'a'; setMark 2 left; setMark 3 right; insert 'b'; insert 'c'; marks = "0 3 1 3 -1 -1"
            """);
    }

    private static void deletionMovesMarks() {
        Doc.says("Terms", "When the k characters from place q on are deleted, each mark beyond q + k moves back by k, and each mark from q to "
                + "q + k moves to q.");
        // marks 0 to 4 at 3 to 7, by turns with left and right gravity, and 5 at the end
        String marks = "block \"0123456789\"; to 3; setMark 0 left; to 4; setMark 1 right; to 5; setMark 2 left; to 6; setMark 3 right; "
                + "to 7; setMark 4 left; to 10; setMark 5 right; ";
        Script.run(marks + "to 4; delete 2; marks = \"3 4 4 4 5 8\"; markByReplay 8 3 = 4; markByReplay 8 4 = 5; markByReplay 8 5 = 8");
        Script.run(marks + "to 4; delete 1; marks = \"3 4 4 5 6 9\"");
        Script.run(marks + "to 2; delete 2; marks = \"2 2 3 4 5 8\"");
        Script.run(marks + "to 7; delete 3; marks = \"3 4 5 6 7 7\"");
        Script.run(marks + "to 0; delete 10; marks = \"0 0 0 0 0 0\"");
        Script.run(marks + "to 5; delete 5; marks = \"3 4 5 5 5 5\"");
        Script.run(marks + "to 4; kill 2; marks = \"3 4 4 4 5 8\"");
    }

    private static void replacementMovesNoMark() {
        Doc.says("Terms", "When a character is replaced by another one, no mark moves.");
        Script.run("""
            block "abc"; to 1; setMark 0 left; setMark 1 right; to 2; setMark 2 left; setMark 3 right; to 1; overwrite 'x'
            marks = "1 1 2 2 -1 -1"; text = "axc"; length = 3
            listen 0 'a' 'z' 0; setMark 4 right; text = "zxc"; marks = "1 1 2 2 2 -1"
            """);
    }

    // ---- changes and nodes

    private static void fiveKindsOfSteps() {
        Doc.says("Changes and nodes", "A change is a list of steps.", "There are five kinds of steps: an insertion of characters at a place, a "
                + "deletion of the characters from a place on, a replacement of the character at an index, the setting or unsetting of a mark, "
                + "and the setting of the contents of a tracked store (see below).");
        Script.run("""
            track 0; stepsOf 1 = 1
            open; type "abc"; to 2; delete 1; to 0; overwrite 'd'; setMark 0 right; clearMark 0; to 0; copy 0 1; move 1; copy 1 1; close = 2
            stepsOf 2 = 8      # three insertions, a deletion, a replacement, two of a mark, one of the store that is tracked
            insert 'x'; stepsOf 3 = 1; delete 1; stepsOf 4 = 1; to 0; overwrite 'y'; stepsOf 5 = 1
            setMark 3 left; stepsOf 6 = 1; clearMark 3; stepsOf 7 = 1; to 0; copy 0 2; stepsOf 8 = 1
            """);
    }

    private static void threeKindsOfTextSteps() {
        Doc.says("Changes and nodes", "The first three kinds are text steps.");
        Script.run("""
            track 4; setMark 0 left; clearMark 0; track 1; undoIn 0 0 ! ISE     # none of these is a text step
            open; setMark 0 left; type "abcdefgh"; setMark 1 left; track 2; close = 5
            stepsOf 5 = 11; undoIn 0 8 = 6; stepsOf 6 = 8; text = ""
            """);
        String ten = "block \"0123456789\"; to 0; open; type \"abcdefg\"; ";
        Script.run(ten + "type \"h\"; close; undoIn 0 0 = 3; text = \"0123456789\"");
        Script.run(ten + "type \"hi\"; close; undoIn 0 0 ! ISE");
        Script.run(ten + "to 12; delete 1; close; undoIn 0 0 = 3; text = \"0123456789\"");
        Script.run(ten + "type \"h\"; to 12; delete 1; close; undoIn 0 0 ! ISE");
        Script.run(ten + "to 12; overwrite 'x'; close; undoIn 0 0 = 3; text = \"0123456789\"");
        Script.run(ten + "type \"h\"; to 12; overwrite 'x'; close; undoIn 0 0 ! ISE");
    }

    private static void root() {
        Doc.says("Changes and nodes", "Node 0 is the root.",
                "It has no change; its text is empty, all marks are unset, all tracked stores are empty.");
        Script.run("""
            now = 0; parentOf 0 = NONE; stepsOf 0 = 0; newestChild 0 = NONE
            block "ab"; setMark 0 left; setMark 5 left; to 0; copy 3 1; kill 1; track 3; track 4; setBudget 2
            parentOf 0 = NONE; stepsOf 0 = 0; lengthByReplay 0 = 0; charByReplay 0 0 ! IOOBE
            markByReplay 0 0 = NONE; markByReplay 0 5 = NONE; storedByReplay 0 3 = 0; storedByReplay 0 4 = 0
            walk 0 = 1; text = ""; marks = "-1 -1 -1 -1 -1 -1"; entries 3 = 0; entries 4 = 0; point = 0; undo ! ISE
            """);
    }

    private static void otherNodes() {
        Doc.says("Changes and nodes", "Each other node has a parent and a change.");
        Script.run("""
            type "a-b"; undo; insert 'c'; checkpoint; move 0; run 0 1; copy 0 1 ! ISE; nodes = 5
            parentOf 1 = 0; parentOf 2 = 1; parentOf 3 = 2; parentOf 4 = 2
            stepsOf 1 = 1; stepsOf 2 = 1; stepsOf 3 = 1; stepsOf 4 = 1
            open; close = 4; nodes = 5
            """);
    }

    private static void stateOfNode() {
        Doc.says("Changes and nodes", "The state of a node is the text, the marks, and the contents of the tracked stores that result from doing "
                + "all steps of the changes of the nodes on the path from the root to it, in this order.");
        Script.run("""
            block "abc"; to 1; setMark 0 right; insert 'x'; delete 1; track 4; kill 1; clearMark 0; to 0; kill 1; overwrite 'y'; walk 2
            insert 'z'
            replay 1 = "abc"; replay 2 = "abc"; replay 3 = "axbc"; replay 4 = "axc"; replay 5 = "axc"; replay 6 = "ax"
            replay 7 = "ax"; replay 8 = "x"; replay 9 = "y"; replay 10 = "azbc"
            markByReplay 1 0 = NONE; markByReplay 2 0 = 1; markByReplay 3 0 = 2; markByReplay 6 0 = 2; markByReplay 7 0 = NONE
            markByReplay 10 0 = 2
            storedByReplay 4 4 = 0; storedByReplay 5 4 = 0; storedByReplay 6 4 = 1; storedByReplay 8 4 = 2; storedByReplay 10 4 = 0
            walk 9; text = "y"; store 4 = "a|c"; walk 6; text = "ax"; store 4 = "c"; marks = "2 -1 -1 -1 -1 -1"
            """);
    }

    private static void pointOfNode() {
        Doc.says("Changes and nodes", "A node also keeps a point: the point when its change was made or was last extended; 0 for the root.");
        Script.run("""
            type "abc"; to 1; setMark 0 left; to 3; open; insert '-'; to 2; close = 3; to 0
            walk 1; point = 3; walk 2; point = 1; walk 3; point = 2; walk 0; point = 0; redo = 1; point = 3; undo = 0; point = 0
            walk 3; macro 0 "insert 'x'; move -1"; run 0 1; to 4; walk 5; point = 2
            """);
    }

    private static void currentNodeAtFirst() {
        Doc.says("Changes and nodes", "One node is the current node, the root at first.");
        Script.run("now = 0; nodes = 1; insert 'a'; now = 1; nodes = 2; undo = 0; now = 0; nodes = 2");
    }

    private static void numbersOfNodes() {
        Doc.says("Changes and nodes", "When a change is made, a node is made for it: its number is the next one, 1 for the first (no number is "
                + "used twice), its parent is the current node, and then it is the current node.");
        Script.run("""
            insert 'a'; now = 1; parentOf 1 = 0; undo; insert 'b'; now = 2; parentOf 2 = 0; walk 1; insert '-'; now = 3; parentOf 3 = 1
            setBudget 2 = 1; parentOf 1 ! IOOBE; nodes = 3
            insert 'c'; now = 4; parentOf 3 ! IOOBE; parentOf 4 = 0; nodes = 3
            insert '!'; now = 5; parentOf 4 ! IOOBE; parentOf 1 ! IOOBE; parentOf 6 ! IOOBE
            listen 0 'x' 'y' 0; listen 1 'y' 'x' 0; insert 'x' ! DEPTH; unlisten 0; unlisten 1
            insert 'd'; now = 6; parentOf 7 ! IOOBE     # a call that threw has used no number
            """);
    }
}
