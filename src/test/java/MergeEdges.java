/** The sentences of the sections "Merging nodes" and "Exceptions". */
final class MergeEdges {
    private MergeEdges() {
    }

    static void all() {
        budgetAtFirst();
        whenNodesAreMerged();
        asLongAsThereAreMore();
        whichCanBeMerged();
        intoItsChild();
        regionUndoOnlyIfBothWere();
        remainingNodes();
        firstExceptionThatApplies();
        nothingIsChanged();
        thereIsNoSuch();
        outOfRange();
        constants();
    }

    private static void budgetAtFirst() {
        Doc.says("Merging nodes", "The budget is 600 nodes at first.");
        // as many as there can be, with one call left for a query
        Ed x = new Ed();
        for (int i = 0; i < 511; i++) {
            x.setMark(0, true);
        }
        Script.on(x, "nodes = 512; now = 511; parentOf 511 = 510; stepsOf 1 = 1");
        Script.each("""
            repeat 500 "setMark 0 left"
            nodes = 501; setBudget 600 = 0; nodes = 501; setBudget 501 = 0; setBudget 500 = 1; nodes = 500
            """);
    }

    private static void whenNodesAreMerged() {
        Doc.says("Merging nodes", "Whenever a node has been made, and in setBudget(), nodes are merged");
        String three = "type \"a-b\"; setBudget 4 = 0; ";
        String[] making = {"insert '!'", "delete 1", "setMark 0 left", "run 0 1", "track 0", "open; insert '!'; close", "undoIn 3 3"};
        for (String call : making) {
            Script.run("macro 0 \"setMark 1 left\"; walk 0; setBudget 600; type \"a-b\"; setBudget 5 = 0; to 2; " + call
                    + "; nodes = 5; parentOf 2 ! IOOBE; stepsOf 3 = 2; now = 5");
        }
        Script.run(three + "setBudget 3 = 1; nodes = 3; parentOf 1 ! IOOBE");
        // nothing else merges, though there are more nodes than the budget and node 1 has no bookmark any more
        String more = "type \"a-b\"; walk 1; setBookmark 0; walk 2; setBookmark 1; walk 3; setBudget 2 = 0; clearBookmark 0; nodes = 4; ";
        String[] others = {"undo", "undo; redo", "walk 0", "walk 3", "setBookmark 2", "clearBookmark 4", "move -1", "pass 1", "open; insert 'x'",
            "checkpoint", "listen 0 'x' 'y' 0", "unlisten 0", "run 3 1", "open; close", "record 0; stop"};
        for (String call : others) {
            Script.run(more + call + "; nodes = 4; parentOf 1 = 0");
        }
        Script.run(more + "setMark 0 left; nodes = 3; parentOf 1 ! IOOBE; parentOf 3 ! IOOBE; parentOf 4 = 2; parentOf 2 = 0");
        // the second node comes to be mergeable by a walk and by clearBookmark(), and is merged when the next one is made
        Script.each("""
            type "a-"; setBookmark 0; insert 'b'; setBudget 2 = 1; nodes = 3; clearBookmark 0; nodes = 3; walk 0; nodes = 3; walk 3; insert '!'
            nodes = 2; now = 4; stepsOf 4 = 4
            """);
    }

    private static void asLongAsThereAreMore() {
        Doc.says("Merging nodes", "as long as there are more nodes than the budget, the root included, and there is a node that can be merged.");
        Script.each("""
            type "a-b-c"; nodes = 6; setBudget 6 = 0; nodes = 6; setBudget 5 = 1; nodes = 5; setBudget 5 = 0; setBudget 3 = 2; nodes = 3
            setBudget 2 = 1; nodes = 2; setBudget 2 = 0; parentOf 5 = 0; stepsOf 5 = 5; now = 5

            # none that can be merged: two leaves and their parent
            insert 'a'; insert '-'; walk 1; insert 'b'; setBudget 2 = 0; nodes = 4; insert '-'; nodes = 4; parentOf 3 ! IOOBE; now = 4; parentOf 4 = 1
            stepsOf 4 = 2
            """);
    }

    private static void whichCanBeMerged() {
        Doc.says("Merging nodes", "A node can be merged if it is neither the root nor the current node, has exactly one child, and has no bookmark.");
        Script.each("""
            # the root has exactly one child
            insert 'a'; nodes = 2; setBudget 2 = 0; insert '-'; nodes = 2; parentOf 0 = NONE; parentOf 2 = 0

            # the current node has exactly one child
            type "a-b"; walk 2; setBudget 2 = 1; nodes = 3; parentOf 1 ! IOOBE; parentOf 2 = 0; parentOf 3 = 2; walk 3; setBudget 2 = 1
            parentOf 2 ! IOOBE

            # two children, and none
            type "a-"; walk 1; insert 'b'; walk 0; setBudget 2 = 0; nodes = 4; parentOf 1 = 0; parentOf 2 = 1; parentOf 3 = 1

            # bookmarks, each of the five
            type "a-b-c-d"; walk 1; setBookmark 0; walk 3; setBookmark 4; walk 5; setBookmark 2; walk 7; setBudget 2 = 3; nodes = 5
            parentOf 1 = 0; parentOf 3 = 1; parentOf 5 = 3; parentOf 7 = 5; clearBookmark 4; setBudget 2 = 1; parentOf 3 ! IOOBE; bookmarkAt 0 = 1
            walk 1; setBookmark 1; clearBookmark 0; walk 7; setBudget 2 = 0; clearBookmark 1; setBudget 2 = 1; parentOf 1 ! IOOBE; parentOf 5 = 0
            """);
    }

    private static void intoItsChild() {
        Doc.says("Merging nodes", "The one with the lowest number is merged into its child: the steps of its change are put ahead of those of the "
                + "child's "
                + "change, the child's parent becomes its parent, and the node does not exist any more.");
        Script.each("""
            # 0 - 1 - 2 and 1 - 3 - 4, the current node is 4
            type "a-"; walk 1; type "bc!"; nodes = 5; now = 4; setBudget 4 = 1; parentOf 3 ! IOOBE; parentOf 4 = 1; stepsOf 4 = 2; parentOf 2 = 1
            newestChild 1 = 4; replay 4 = "abc!"; walk 3 ! IOOBE; lengthByReplay 3 ! IOOBE; walk 1 = 1; redo = 4; text = "abc!"

            # the lowest one of three
            type "a-b-"; setBudget 4 = 1; parentOf 1 ! IOOBE; parentOf 2 = 0; stepsOf 2 = 2; stepsOf 3 = 1; setBudget 3 = 1; parentOf 2 ! IOOBE
            stepsOf 3 = 3; parentOf 3 = 0; newestChild 0 = 3

            # put ahead of those of the child: only so that the two places are told apart
            block "abcdefghi"; to 3; delete 1; to 2; delete 1; setBookmark 0; walk 1; setBookmark 1; walk 3; setBudget 3 = 1; stepsOf 3 = 2
            undoIn 2 2; text = "abcdefghi"

            block "abcdefghi"; to 2; delete 1; delete 1; setBookmark 0; walk 1; setBookmark 1; walk 3; setBudget 3 = 1; stepsOf 3 = 2
            undoIn 2 2; text = "abcdefghi"

            # a child with more than one step
            open; setMark 0 left; type "ab"; close; open; type "cd"; close; setBudget 2 = 1; stepsOf 2 = 5; parentOf 2 = 0; undoIn 4 4; text = ""

            # a node that typing has extended and a listener has replaced in; its steps move the traces of others
            insert 'z'; setBookmark 0; to 0; listen 0 'q' 'r' 0; insert 'a'; insert 'q'; text = "arz"; setMark 0 left; setBudget 3 = 1; stepsOf 3 = 3
            undoIn 3 3; text = "ar"

            # 4 and 5 text steps are 9 together
            block "abcd"; block "efghi"; setBudget 2 = 1; undoIn 0 9 ! ISE

            block "abcd"; block "efgh"; setBudget 2 = 1; setBudget 600 = 0; undoIn 0 8 = 3; text = ""; stepsOf 3 = 8
            """);
    }

    private static void regionUndoOnlyIfBothWere() {
        Doc.says("Merging nodes", "The child's change is a region undo then only if both were.");
        String two = "type \"ab\"; move 0; type \"cd\"; setBookmark 0; walk 1; setBookmark 1; walk 2; ";
        // nodes 1 and 2 are kept, 3 is merged into 4
        Script.run(two + "undoIn 4 4 = 3; undoIn 0 0 = 4; setBudget 4 = 1; stepsOf 4 = 2; parentOf 4 = 2; text = \"\"; undoIn 0 0 ! ISE");
        Script.run(two + "undoIn 4 4 = 3; to 0; insert 'x'; text = \"xab\"; setBudget 4 = 1; stepsOf 4 = 2; undoIn 3 3 = 5; text = \"abcd\"");
        Script.run(two + "to 0; insert 'x'; undoIn 4 5 = 4; text = \"xab\"; setBudget 4 = 1; stepsOf 4 = 2; undoIn 0 0 = 5; text = \"abcd\"");
        Script.run(two + "to 0; insert 'x'; to 5; insert 'y'; setBudget 4 = 1; stepsOf 4 = 2; undoIn 0 0 = 5; text = \"abcd\"");
    }

    private static void remainingNodes() {
        Doc.says("Merging nodes", "No state and no point of a remaining node changes by this.");
        Ed x = Script.run("""
            block "abc"; to 1; setMark 0 right; insert 'x'; track 4; to 2; kill 1; setBookmark 0; to 0; insert 'y'; overwrite 'z'; setMark 1 left
            to 0; clearMark 0
            now = 9
            """);
        String[] pictures = new String[10];
        for (int node = 0; node < 10; node++) {
            pictures[node] = state(x, node);
        }
        int nodes = x.nodes();
        for (int budget = nodes - 1; budget >= 2; budget--) {
            x.setBudget(budget);
            for (int node = 0; node < 10; node++) {
                if (Check.exists(x, node)) {
                    Check.is("node " + node + " with a budget of " + budget, state(x, node), pictures[node]);
                }
            }
        }
        Check.is("nodes at last", x.nodes(), 3);
        Script.on(x, "walk 5 = 1; point = 2; walk 9 = 1; point = 0; walk 0 = 2; point = 0");
    }

    private static String state(Ed x, int node) {
        StringBuilder s = new StringBuilder(Check.replay(x, node));
        for (int mark = 0; mark < 6; mark++) {
            s.append(' ').append(x.markByReplay(node, mark));
        }
        return s.append(" ring ").append(x.storedByReplay(node, 4)).toString();
    }

    // ---- exceptions

    private static void firstExceptionThatApplies() {
        Doc.says("Exceptions", "The first exception of a method's throws clause that applies is thrown.");
        Script.each("""
            # the number that there is not, another argument, and then what cannot be done
            copy 4 0 ! IOOBE; copy -1 21 ! IOOBE; copy 4 1 ! IOOBE; copy 0 0 ! IAE; copy 0 1 ! ISE; run 4 0 ! IOOBE; run 4 1 ! IOOBE; run 0 0 ! IAE
            delete 0 ! IAE; delete 21 ! IAE; kill 21 ! IAE; overwrite 9 ! IAE; search 9 ! IAE; move 51 ! IAE; paste 4 ! IOOBE; clearMark 6 ! IOOBE
            jump 6 ! IOOBE; narrow 6 ! IOOBE; track 5 ! IOOBE; track 0; track 0 ! ISE
            listen 3 'a' 'a' 10 ! IOOBE; listen -1 9 'a' 0 ! IOOBE; listen 0 'a' 'a' 10 ! IAE

            record 0; record 4 ! IOOBE; record -1 ! IOOBE; record 0 ! ISE; repeat 16 "move 0"; insert 9 ! IAE; insert 'a' ! ISE; copy 4 0 ! IOOBE
            copy 0 0 ! IAE; run 4 0 ! IOOBE; run 0 0 ! IAE; run 0 1 ! ISE; setMark 6 left ! IOOBE; setMark 0 left ! ISE; delete 0 ! IAE
            delete 1 ! ISE

            open; walk 1 ! IOOBE; walk -1 ! IOOBE; walk 0 ! ISE; undoIn 0 1 ! IAE; undoIn -1 0 ! IAE; undoIn 0 0 ! ISE

            full; insert 9 ! IAE; insert 127 ! IAE; insert 'a' ! ISE; paste 4 ! IOOBE; paste 0 ! ISE

            block "x"; listen 0 'x' 'y' 0; listen 1 'y' 'x' 0; insert 9 ! IAE; setMark 6 left ! IOOBE; overwrite 'a' ! ISE; setMark 0 left ! DEPTH
            track 5 ! IOOBE; track 4 ! DEPTH; run 4 1 ! IOOBE; undoIn 0 2 ! IAE; undoIn 0 0 = 2
            """);
    }

    private static void nothingIsChanged() {
        Doc.says("Exceptions", "A call that throws changes nothing, except for the listener chain as described.");
        // Script looks at all queries and at what later calls answer behind each call that throws; here in a state with all there is
        Script.each("""
            block "abcdef"; to 0; kill 1; copy 0 2; track 4; macro 1 "move 1; move -1"; setMark 0 right; to 3; setMark 1 left; to 1; narrow 1
            setBookmark 3; listen 2 '!' '?' 4; record 3; open; insert 'q'; view = "1 4"; to 4
            insert 9 ! IAE; overwrite 'x' ! ISE; delete 1 ! ISE; delete 0 ! IAE; move 1 ! ISE; move 51 ! IAE; search 'z' ! ISE
            search 9 ! IAE; kill 1 ! ISE; kill 21 ! IAE; rotate ! ISE; copy 0 1 ! ISE; copy 4 1 ! IOOBE; copy 0 21 ! IAE; paste 1 ! ISE
            paste 4 ! IOOBE
            setMark 6 left ! IOOBE; clearMark 5 ! ISE; clearMark 6 ! IOOBE; jump 5 ! ISE; jump -1 ! IOOBE; narrow 5 ! ISE; narrow 6 ! IOOBE
            run 4 1 ! IOOBE; run 1 11 ! IAE; record 0 ! ISE; record 4 ! IOOBE; open ! ISE; pass 0 ! IAE; pass 101 ! IAE; track 4 ! ISE
            track 5 ! IOOBE
            undo ! ISE; redo ! ISE; walk 0 ! ISE; walk 99 ! IOOBE; undoIn 0 0 ! ISE; undoIn 0 99 ! IAE; setBookmark 5 ! IOOBE; clearBookmark 5 ! IOOBE
            setBudget 1 ! IAE; setBudget 601 ! IAE; listen 3 'a' 'b' 0 ! IOOBE; listen 0 'a' 'a' 0 ! IAE; unlisten 3 ! IOOBE
            close; close ! ISE; undoIn 0 99 ! IAE; stop; stop ! ISE; widen; widen ! ISE; redo ! ISE; walk 0; undo ! ISE

            # steps of a call that threw do not count for an undo in a region
            insert 'z'; listen 0 'p' 'q' 0; listen 1 'q' 'p' 0; insert 'p' ! DEPTH; unlisten 0; unlisten 1; block "abcdefgh"; undoIn 9 9 = 3
            text = "z"
            """);
    }

    private static void thereIsNoSuch() {
        Doc.says("Exceptions", "IndexOutOfBoundsException: there is no such mark, store, entry, macro, listener, bookmark, node, line, place or "
                + "index.");
        for (String bad : new String[] {"-1", "9", "MIN", "MAX"}) {
            Script.run("""
                block "abc"; to 0; kill 1; copy 0 1
                setMark BAD left ! IOOBE; clearMark BAD ! IOOBE; jump BAD ! IOOBE; narrow BAD ! IOOBE; markAt BAD ! IOOBE; markByReplay 1 BAD ! IOOBE
                copy BAD 1 ! IOOBE; paste BAD ! IOOBE; track BAD ! IOOBE; entries BAD ! IOOBE; entryLength BAD 0 ! IOOBE; entryChar BAD 0 0 ! IOOBE
                storedByReplay 1 BAD ! IOOBE; entryLength 4 BAD ! IOOBE; entryChar 4 BAD 0 ! IOOBE; entryLength 0 BAD ! IOOBE
                entryChar 0 BAD 0 ! IOOBE
                run BAD 1 ! IOOBE; record BAD ! IOOBE; commands BAD ! IOOBE; listen BAD 'a' 'b' 0 ! IOOBE; unlisten BAD ! IOOBE
                setBookmark BAD ! IOOBE; clearBookmark BAD ! IOOBE; bookmarkAt BAD ! IOOBE
                walk BAD ! IOOBE; parentOf BAD ! IOOBE; newestChild BAD ! IOOBE; stepsOf BAD ! IOOBE; lengthByReplay BAD ! IOOBE
                charByReplay BAD 0 ! IOOBE; markByReplay BAD 0 ! IOOBE; storedByReplay BAD 0 ! IOOBE
                lineStart BAD ! IOOBE; lineOf BAD ! IOOBE; charAt BAD ! IOOBE; charByReplay 1 BAD ! IOOBE; entryChar 4 0 BAD ! IOOBE
                entryChar 0 0 BAD ! IOOBE; listenerChain BAD ! IOOBE
                """.replace("BAD", bad));
        }
    }

    private static void outOfRange() {
        Doc.says("Exceptions", "IllegalArgumentException: another argument is out of range.");
        for (String bad : new String[] {"-1", "MIN", "MAX"}) {
            Script.run("""
                block "abc"; to 0
                insert BAD ! IAE; overwrite BAD ! IAE; search BAD ! IAE; delete BAD ! IAE; kill BAD ! IAE; copy 0 BAD ! IAE; run 0 BAD ! IAE
                pass BAD ! IAE
                setBudget BAD ! IAE; listen 0 BAD 'a' 0 ! IAE; listen 0 'a' BAD 0 ! IAE; listen 0 'a' 'b' BAD ! IAE; undoIn BAD 3 ! IAE
                undoIn 0 BAD ! IAE
                undoIn BAD BAD ! IAE
                """.replace("BAD", bad));
        }
        Script.each("""
            block "abc"; move 51 ! IAE; move -51 ! IAE; move MIN ! IAE; move MAX ! IAE; undoIn 2 1 ! IAE; undoIn 4 4 ! IAE; undoIn 3 4 ! IAE
            """);
    }

    private static void constants() {
        Doc.says("Exceptions", "The constants: `NONE = -1`: There is none.", "`RING = 4`: The kill ring, as a store.",
                "`NOT_ENOUGH = 1, NOT_FOUND = 2, NO_MARK = 3, NO_ENTRY = 4, TOO_LONG = 5, VIEWS = 6, TOO_DEEP = 7, TOO_MANY = 8`: Reasons: the "
                + "view has not "
                + "enough characters or places; the character is not found; the mark is unset or outside the view; the store has not enough "
                + "entries; the "
                + "text would be too long; no more views, or none; a run would be too deep; too many commands.");
        Script.each("""
            parentOf 0 = -1; markAt 0 = -1; bookmarkAt 0 = -1; newestChild 0 = -1; failureCommand = -1; listenerChain 0 = -1; setMark 0 left = -1
            block "ab"; to 0; kill 1; entries 4 = 1; entryLength 4 0 = 1

            # each reason, by its number
            block "abcd"; macro 0 "move -1"; walk 1; to 0; run 0 1 = 0; failureReason = 1; to 3; macro 1 "search 'd'"; run 1 1; failureReason = 2
            walk 1; setMark 0 left; macro 1 "jump 0"; walk 0; run 1 1; failureReason = 3
            walk 1; to 0; track 4; kill 1; macro 1 "yank"; walk 0; run 1 1; failureReason = 4

            full; macro 1 "move 0"; to 0; delete 1; macro 0 "insert 'x'"; run 0 1; failureReason = 5; run 1 1; failureReason = 0

            setMark 0 left; macro 0 "narrow 0"; macro 1 "widen"; run 1 1; failureReason = 6; run 0 5; failureReason = 6
            macro 2 "run 2 1"; run 2 1; failureReason = 7; macro 3 "move 0; move 0; move 0; move 0; move 0"; run 3 5; failureReason = 8
            """);
    }
}
