/** The sentences of the sections "Stores" and "Views". */
final class StoreEdges {
    private StoreEdges() {
    }

    static void all() {
        registers();
        whatRegistersHold();
        killRing();
        whatTheRingHolds();
        trackedForEver();
        stepsOfTrackedStores();
        storesThatAreNotTracked();
        rangeOfView();
        fourViews();
        currentView();
        stepsMoveViews();
        placesInView();
        pointInView();
    }

    private static void registers() {
        Doc.says("Stores", "Stores 0 to 3 are registers.");
        Script.run("""
            block "abcd"; to 0; copy 0 1; move 1; copy 1 1; move 1; copy 2 1; move 1; copy 3 1
            store 0 = "a"; store 1 = "b"; store 2 = "c"; store 3 = "d"; store 4 = ""
            paste 0; paste 1; paste 2; paste 3; text = "abcabcdd"
            copy 4 1 ! IOOBE; copy 5 1 ! IOOBE; copy -1 1 ! IOOBE; paste 4 ! IOOBE; paste 5 ! IOOBE; paste -1 ! IOOBE; entries 5 ! IOOBE
            """);
    }

    private static void whatRegistersHold() {
        Doc.says("Stores", "A register holds one text of 1 to 20 characters, called its entry 0, or it is empty, as at first.");
        Script.run("""
            entries 0 = 0; entries 3 = 0; entryLength 0 0 ! IOOBE; paste 0 ! ISE; paste 3 ! ISE
            block "abcdefghijklmnopqrstuvwxyz"; to 0; copy 0 1 = 0; entries 0 = 1; entryLength 0 0 = 1; entryLength 0 1 ! IOOBE
            copy 0 20 = 1; entries 0 = 1; entryLength 0 0 = 20; store 0 = "abcdefghijklmnopqrst"; entryLength 0 1 ! IOOBE
            copy 0 21 ! IAE; copy 0 0 ! IAE; copy 0 1 = 20; store 0 = "a"; entries 1 = 0
            """);
    }

    private static void killRing() {
        Doc.says("Stores", "Store 4 is the kill ring.");
        Script.each("""
            block "abc"; to 0; kill 2; store 4 = "ab"; entries RING = 1; entryChar RING 0 1 = 'b'; entries 0 = 0; entries 3 = 0; track 4
            storedByReplay 3 4 = 2
            """);
    }

    private static void whatTheRingHolds() {
        Doc.says("Stores", "It has 0 to 4 entries, none at first, each a text of 1 to 20 characters; entry 0 is the front.");
        Script.run("""
            entries 4 = 0; entryLength 4 0 ! IOOBE; yank ! ISE; rotate ! ISE
            block "abcdefghijklmnopqrstuvwxyz0123456789"; to 0
            kill 1 = 1; store 4 = "a"; kill 20 = 2; entryLength 4 0 = 20; entryLength 4 1 = 1; kill 2 = 3; kill 1 = 4
            entries 4 = 4; store 4 = "x|vw|bcdefghijklmnopqrstu|a"; entryLength 4 4 ! IOOBE; entryLength 4 3 = 1
            kill 3 = 4; entries 4 = 4; store 4 = "yz0|x|vw|bcdefghijklmnopqrstu"; kill 0 ! IAE; kill 21 ! IAE
            yank; text = "yz0123456789"; rotate = 4; store 4 = "x|vw|bcdefghijklmnopqrstu|yz0"; entries 4 = 4
            """);
    }

    private static void trackedForEver() {
        Doc.says("Stores", "A store is tracked from the call of track() on, for ever.");
        Script.run("""
            block "abc"; to 0; copy 0 1; track 0; undo; track 0 ! ISE; walk 0; track 0 ! ISE; entries 0 = 0
            walk 1; to 0; copy 0 2; now = 3; stepsOf 3 = 1; setBudget 2; track 0 ! ISE; open; track 0 ! ISE; close
            """);
        // from the call on, also while the group that it belongs to is open
        Script.each("""
            block "abc"; to 0; open; copy 0 1; track 0; copy 0 2; track 0 ! ISE; copy 1 1; close = 2; stepsOf 2 = 2
            """);
    }

    private static void stepsOfTrackedStores() {
        Doc.says("Stores", "A command that sets the contents of a tracked store does a step; it does none if the store is not tracked.");
        Script.run("""
            block "abcdef"; to 0; copy 0 1; now = 1; kill 1; stepsOf 2 = 1; kill 1; rotate; now = 3
            track 0; track 4; copy 0 2; stepsOf 6 = 1; copy 0 2; stepsOf 7 = 1; kill 1; stepsOf 8 = 2; rotate; stepsOf 9 = 1; copy 1 1; now = 9
            yank; stepsOf 10 = 1; paste 0; stepsOf 11 = 1; storedByReplay 11 0 = 2; storedByReplay 11 4 = 3; storedByReplay 11 1 = 0
            """);
    }

    private static void storesThatAreNotTracked() {
        Doc.says("Stores", "The contents of a store that is not tracked are changed by commands alone, not by walks.");
        Script.run("""
            block "abcdef"; to 0; kill 1; kill 1; copy 0 2; copy 1 1; track 1; undo; undo; text = "bcdef"; store 4 = "b|a"; store 0 = "cd"
            store 1 = ""
            walk 0; store 4 = "b|a"; store 0 = "cd"; redo; redo; redo; redo; store 4 = "b|a"; store 1 = "c"; walk 3; store 1 = ""; store 0 = "cd"
            undoIn 0 1; store 4 = "b|a"; rotate; walk 1; store 4 = "a|b"; setBudget 2; store 4 = "a|b"
            """);
    }

    // ---- views

    private static void rangeOfView() {
        Doc.says("Views", "A view is a range of the text from its start to its end, two places.");
        Script.each("""
            block "0123456789"; to 3; setMark 0 left; to 7; narrow 0 = 1; viewStart = 3; viewEnd = 7; widen; narrow 0; to 3; view = "3 7"

            setMark 0 left; narrow 0 = 1; view = "0 0"; widen; block "ab"; setMark 1 left; to 0; narrow 1; view = "0 2"; widen; to 2; narrow 1
            view = "2 2"
            """);
    }

    private static void fourViews() {
        Doc.says("Views", "There are at most 4 nested views.");
        Script.each("""
            setMark 0 left; narrow 0 = 1; narrow 0 = 2; narrow 0 = 3; narrow 0 = 4; narrow 0 ! ISE; widen = 3; narrow 0 = 4; narrow 0 ! ISE
            widen = 3; widen = 2; widen = 1; widen = 0; widen ! ISE; narrow 0 = 1
            """);
    }

    private static void currentView() {
        Doc.says("Views", "The current view is the innermost one; without a view it is the whole text.");
        Script.run("""
            view = "0 0"; block "0123456789"; view = "0 10"; to 2; setMark 0 left; to 9; narrow 0; view = "2 9"; to 4; setMark 1 left; to 8; narrow 1
            view = "4 8"; delete 1 ! ISE; to 4; move -1 ! ISE; widen = 1; view = "2 9"; move -2 = 2; move -1 ! ISE; widen = 0; view = "0 10"
            move -2 = 0
            """);
    }

    /** Text 0123456789 with a deletion to be undone at a place, and then a view from 3 to 6 with the point at its end. */
    private static String view(int place, int count) {
        return "block \"0123456789\"; to " + place + "; delete " + count + "; to 3; setMark 0 left; to 6; narrow 0; view = \"3 6\"; ";
    }

    private static void stepsMoveViews() {
        Doc.says("Views", "Steps move the start of a view like a mark with left gravity, and its end like a mark with right gravity.");
        Script.run(view(2, 2) + "undoIn 2 2; view = \"5 8\"");
        Script.run(view(3, 2) + "undoIn 3 3; view = \"3 8\"; move -5 = 3");
        Script.run(view(4, 2) + "undoIn 4 4; view = \"3 8\"");
        Script.run(view(6, 2) + "undoIn 6 6; view = \"3 8\"; point = 6");
        Script.run(view(7, 2) + "undoIn 7 7; view = \"3 6\"");
        // typed characters that are taken back: ahead of the view, over its start, in it, over its end, behind it
        String[][] typed = {{"1", "1 4"}, {"2", "2 4"}, {"3", "3 4"}, {"4", "3 4"}, {"5", "3 5"}, {"6", "3 6"}, {"7", "3 6"}};
        for (String[] t : typed) {
            Script.run("block \"01234567\"; to " + t[0] + "; type \"ab\"; to 3; setMark 0 left; to 6; narrow 0; undoIn " + t[0] + " " + t[0]
                    + "; text = \"01234567\"; view = \"" + t[1] + "\"");
        }
        Script.each("""
            block "0123456789"; to 3; setMark 0 left; to 6; narrow 0; insert 'a'; view = "3 7"; to 3; insert 'b'; view = "3 8"; delete 2
            view = "3 6"; overwrite 'c'; view = "3 6"
            """);
        // each of four views moves, and none does if the call throws
        Script.each("""
            block "0123456789"; to 2; delete 1; to 7; setMark 0 left; to 4; narrow 0; narrow 0; narrow 0; narrow 0; delete 1; insert 'x'; insert 'y'
            listen 0 '9' '!' 0; listen 1 '!' '9' 0; undoIn 2 2 ! DEPTH; view = "4 8"; unlisten 1; undoIn 2 2; view = "5 9"; widen = 3; view = "5 9"
            widen = 2; view = "5 9"; widen = 1; view = "5 9"; widen = 0; text = "01234xy678!"
            """);
        Script.each("""
            block "0123456789"; to 2; delete 1; to 7; setMark 0 left; to 4; narrow 0; narrow 0; narrow 0; narrow 0
            listen 0 '9' '!' 0; listen 1 '!' '9' 0; undoIn 2 2 ! DEPTH; widen; view = "4 7"; widen; view = "4 7"; widen; view = "4 7"
            """);
        // the views around it move too
        Script.run("""
            block "0123456789"; to 2; delete 2; to 3; setMark 0 left; to 6; narrow 0; narrow 0; to 4; narrow 0; narrow 0; undoIn 2 2
            view = "5 6"; widen; view = "5 6"; widen; view = "5 8"; widen = 1; view = "5 8"
            """);
        Script.each("""
            block "0123456789"; to 5; setMark 0 left; narrow 0; narrow 0; insert 'a'; insert 'b'; view = "5 7"; widen; view = "5 7"
            """);
    }

    private static void placesInView() {
        Doc.says("Views", "A place is in the current view if it is not less than its start and not greater than its end.");
        String view = "block \"0123456789\"; to 2; setMark 0 left; to 3; setMark 1 left; to 6; setMark 2 left; to 7; setMark 3 left; to 3; narrow 2; ";
        Script.run(view + "jump 1 = 3; jump 2 = 6; jump 0 ! ISE; jump 3 ! ISE; move -3 = 3; move -1 ! ISE; move 3 = 6; move 1 ! ISE");
        Script.run(view + "narrow 1 = 2; view = \"3 3\"; widen; jump 2; narrow 2 = 2; view = \"6 6\"; widen; narrow 0 ! ISE; narrow 3 ! ISE; "
                + "widen = 0; "
                + "jump 0 = 2; jump 3 = 7");
    }

    private static void pointInView() {
        Doc.says("Views", "The point is always in the current view.");
        Script.run(view(3, 2) + "point = 6; undoIn 3 3; point = 8; view = \"3 8\"");
        Script.each("""
            block "01234567"; to 2; type "abcd"; to 3; setMark 0 left; to 5; narrow 0; undoIn 2 2; view = "2 2"; point = 2

            block "01234567"; to 3; setMark 0 left; to 5; narrow 0; macro 0 "move -1; move -1; widen"; view = "0 8"; to 4; narrow 0; view = "3 4"
            run 0 1 = 0; point = 4; view = "3 4"

            block "abcd"; to 1; setMark 0 left; to 3; narrow 0; walk 1; point = 4; view = "0 4"
            """);
    }
}
