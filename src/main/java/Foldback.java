import java.util.ArrayList;
import java.util.List;

/** A text editor whose undo history is a tree. What each call promises stands in DOC.md. */
public final class Foldback {
    public static final int NONE = -1;
    public static final int RING = 4;
    public static final int NOT_ENOUGH = 1, NOT_FOUND = 2, NO_MARK = 3, NO_ENTRY = 4, TOO_LONG = 5, VIEWS = 6, TOO_DEEP = 7, TOO_MANY = 8;

    // stands beside the reasons for "nothing failed"
    private static final int DONE = 0;

    private static final int LINE_FEED = 10, FIRST_CHARACTER = 32, LAST_CHARACTER = 126;
    private static final int MAX_TEXT = 400, MAX_ENTRY = 20, MAX_DISTANCE = 50;
    private static final int MARKS = 6, MAX_VIEWS = 4;
    private static final int REGISTERS = 4, STORES = 5, RING_ENTRIES = 4;
    private static final int MACROS = 4, MACRO_COMMANDS = 16, MAX_TIMES = 10, RUN_LEVELS = 5, RUN_COMMANDS = 24;
    private static final int MAX_TICKS = 100, TYPING_TICKS = 4;
    private static final int LISTENERS = 3, MAX_RANK = 9, DEPTHS = 8;
    private static final int BOOKMARKS = 5, MIN_BUDGET = 2, MAX_BUDGET = 600, MAX_TRACES = 8;

    // the kinds of steps; the text steps come first
    private static final int INSERTION = 1, DELETION = 2, REPLACEMENT = 3, MARKING = 4, STORING = 5;

    // the commands, as macros hold them
    private static final int INSERT = 1, OVERWRITE = 2, DELETE = 3, MOVE = 4, SEARCH = 5, KILL = 6, YANK = 7, ROTATE = 8, COPY = 9;
    private static final int PASTE = 10, SET_MARK = 11, CLEAR_MARK = 12, JUMP = 13, NARROW = 14, WIDEN = 15, RUN = 16, CHECKPOINT = 17;

    private final Desk live = new Desk();
    // what a call that throws late goes back to
    private final Desk before = new Desk();
    // what a run that fails goes back to
    private final Desk checked = new Desk();
    private final boolean[] tracked = new boolean[STORES];
    private final Tree tree = new Tree();
    private final Listeners listeners = new Listeners();
    private final Traces traces = new Traces();
    private final Macro[] macros = new Macro[MACROS];
    private final Macro recorded = new Macro();
    private final Trial trial = new Trial();
    private int recording = NONE;
    private boolean groupOpen;
    // true while the current node's change is one that the next insert() may extend
    private boolean typing;
    private int lastTyped;
    private int ticks;
    // what the command that was performed last returns to its caller
    private int answer;

    public Foldback() {
        for (int i = 0; i < MACROS; i++) {
            macros[i] = new Macro();
        }
    }

    // ---- commands

    public int insert(int character) throws IllegalArgumentException, IllegalStateException {
        requireCharacter(character);
        prepare();
        performOrRefuse(INSERT, character, 0);
        if (continuesTyping(character)) {
            extendChange();
        } else if (!groupOpen) {
            makeChange(false);
        }
        noteCommand(INSERT, character, 0);
        // a second step is a listener's replacement or comes from a merged change
        typing = !groupOpen && tree.current.steps.count == 1;
        lastTyped = character;
        ticks = 0;
        return answer;
    }

    public int overwrite(int character) throws IllegalArgumentException, IllegalStateException {
        requireCharacter(character);
        return call(OVERWRITE, character, 0);
    }

    public int delete(int count) throws IllegalArgumentException, IllegalStateException {
        requireRange(count, 1, MAX_ENTRY);
        return call(DELETE, count, 0);
    }

    public int move(int distance) throws IllegalArgumentException, IllegalStateException {
        requireRange(distance, -MAX_DISTANCE, MAX_DISTANCE);
        return call(MOVE, distance, 0);
    }

    public int search(int character) throws IllegalArgumentException, IllegalStateException {
        requireCharacter(character);
        return call(SEARCH, character, 0);
    }

    public int kill(int count) throws IllegalArgumentException, IllegalStateException {
        requireRange(count, 1, MAX_ENTRY);
        return call(KILL, count, 0);
    }

    public int yank() throws IllegalStateException {
        return call(YANK, 0, 0);
    }

    public int rotate() throws IllegalStateException {
        return call(ROTATE, 0, 0);
    }

    public int copy(int register, int count) throws IndexOutOfBoundsException, IllegalArgumentException, IllegalStateException {
        requireIndex(register, REGISTERS);
        requireRange(count, 1, MAX_ENTRY);
        return call(COPY, register, count);
    }

    public int paste(int register) throws IndexOutOfBoundsException, IllegalStateException {
        requireIndex(register, REGISTERS);
        return call(PASTE, register, 0);
    }

    public int setMark(int mark, boolean right) throws IndexOutOfBoundsException, IllegalStateException {
        requireIndex(mark, MARKS);
        return call(SET_MARK, mark, right ? 1 : 0);
    }

    public int clearMark(int mark) throws IndexOutOfBoundsException, IllegalStateException {
        requireIndex(mark, MARKS);
        return call(CLEAR_MARK, mark, 0);
    }

    public int jump(int mark) throws IndexOutOfBoundsException, IllegalStateException {
        requireIndex(mark, MARKS);
        return call(JUMP, mark, 0);
    }

    public int narrow(int mark) throws IndexOutOfBoundsException, IllegalStateException {
        requireIndex(mark, MARKS);
        return call(NARROW, mark, 0);
    }

    public int widen() throws IllegalStateException {
        return call(WIDEN, 0, 0);
    }

    public int run(int macro, int times) throws IndexOutOfBoundsException, IllegalArgumentException, IllegalStateException {
        requireIndex(macro, MACROS);
        requireRange(times, 1, MAX_TIMES);
        prepare();
        checked.takeAll(live);
        trial.begin();
        if (!runMacro(macro, times, 1)) {
            live.takeBack(checked, tracked);
        }
        if (!groupOpen) {
            makeChange(false);
        }
        noteCommand(RUN, macro, times);
        trial.publish();
        return trial.reason == DONE ? trial.started : trial.startedAtCheckpoint;
    }

    public void checkpoint() throws IllegalStateException {
        call(CHECKPOINT, 0, 0);
    }

    // ---- recording, groups, time, stores

    public void record(int macro) throws IndexOutOfBoundsException, IllegalStateException {
        requireIndex(macro, MACROS);
        if (recording != NONE) {
            throw new IllegalStateException("a macro is being recorded");
        }
        recording = macro;
        recorded.count = 0;
        typing = false;
    }

    public int stop() throws IllegalStateException {
        if (recording == NONE) {
            throw new IllegalStateException("no macro is being recorded");
        }
        macros[recording].takeList(recorded);
        recording = NONE;
        typing = false;
        return recorded.count;
    }

    public void open() throws IllegalStateException {
        if (groupOpen) {
            throw new IllegalStateException("a group is open");
        }
        groupOpen = true;
        typing = false;
    }

    public int close() throws IllegalStateException {
        if (!groupOpen) {
            throw new IllegalStateException("no group is open");
        }
        before.takeAll(live);
        makeChange(false);
        groupOpen = false;
        typing = false;
        return tree.current.number;
    }

    public void pass(int ticks) throws IllegalArgumentException {
        requireRange(ticks, 1, MAX_TICKS);
        this.ticks = Math.min(TYPING_TICKS, this.ticks + ticks);
    }

    public void track(int store) throws IndexOutOfBoundsException, IllegalStateException {
        requireIndex(store, STORES);
        if (tracked[store]) {
            throw new IllegalStateException("the store is tracked");
        }
        before.takeAll(live);
        live.addStep(STORING);
        if (!groupOpen) {
            requireCalmListeners();
        }
        tracked[store] = true;
        if (!groupOpen) {
            makeNode(false);
        }
        typing = false;
    }

    // ---- the tree

    public int undo() throws IllegalStateException {
        refuseInGroup();
        return goToNode(tree.current.parent);
    }

    public int redo() throws IllegalStateException {
        refuseInGroup();
        return goToNode(tree.lastChild(tree.current));
    }

    public int walk(int node) throws IndexOutOfBoundsException, IllegalStateException {
        Node aim = requireNode(node);
        refuseInGroup();
        int changes = tree.distance(tree.current, aim);
        goToNode(aim);
        return changes;
    }

    public int undoIn(int from, int to) throws IllegalArgumentException, IllegalStateException {
        requireRange(from, 0, live.state.size);
        requireRange(to, from, live.state.size);
        refuseInGroup();
        if (!traces.find(tree.current, from, to)) {
            throw new IllegalStateException("no change to undo in the region");
        }
        before.takeAll(live);
        if (!traces.doOpposites(live)) {
            live.takeAll(before);
            throw new IllegalStateException("the text would be too long");
        }
        makeChange(true);
        typing = false;
        return tree.current.number;
    }

    public int setBookmark(int bookmark) throws IndexOutOfBoundsException {
        requireIndex(bookmark, BOOKMARKS);
        return exchangeBookmark(bookmark, tree.current);
    }

    public int clearBookmark(int bookmark) throws IndexOutOfBoundsException {
        requireIndex(bookmark, BOOKMARKS);
        return exchangeBookmark(bookmark, null);
    }

    public int setBudget(int nodes) throws IllegalArgumentException {
        requireRange(nodes, MIN_BUDGET, MAX_BUDGET);
        tree.budget = nodes;
        typing = false;
        return tree.mergeToBudget();
    }

    public void listen(int listener, int from, int to, int rank) throws IndexOutOfBoundsException, IllegalArgumentException {
        requireIndex(listener, LISTENERS);
        requireCharacter(from);
        requireCharacter(to);
        requireRange(rank, 0, MAX_RANK);
        if (from == to) {
            throw new IllegalArgumentException("a character is not replaced by itself");
        }
        listeners.activate(listener, from, to, rank);
        typing = false;
    }

    public boolean unlisten(int listener) throws IndexOutOfBoundsException {
        requireIndex(listener, LISTENERS);
        boolean was = listeners.active[listener];
        listeners.active[listener] = false;
        typing = false;
        return was;
    }

    // ---- queries

    public int length() {
        return live.state.size;
    }

    public int charAt(int index) throws IndexOutOfBoundsException {
        requireIndex(index, live.state.size);
        return live.state.text[index];
    }

    public int point() {
        return live.point;
    }

    public int lines() {
        return lineFeedsAhead(live.state.size) + 1;
    }

    public int lineOf(int place) throws IndexOutOfBoundsException {
        requireIndex(place, live.state.size + 1);
        return lineFeedsAhead(place);
    }

    public int lineStart(int line) throws IndexOutOfBoundsException {
        requireIndex(line, lines());
        int place = 0;
        for (int i = 0; i < line; i++) {
            place = live.state.indexOfSign(LINE_FEED, place, live.state.size) + 1;
        }
        return place;
    }

    public int markAt(int mark) throws IndexOutOfBoundsException {
        requireIndex(mark, MARKS);
        return live.state.places[mark];
    }

    public int viewStart() {
        return live.low();
    }

    public int viewEnd() {
        return live.high();
    }

    public int now() {
        return tree.current.number;
    }

    public int nodes() {
        return tree.list.size();
    }

    public int parentOf(int node) throws IndexOutOfBoundsException {
        return numberOf(requireNode(node).parent);
    }

    public int newestChild(int node) throws IndexOutOfBoundsException {
        return numberOf(tree.lastChild(requireNode(node)));
    }

    public int stepsOf(int node) throws IndexOutOfBoundsException {
        return requireNode(node).steps.count;
    }

    public int bookmarkAt(int bookmark) throws IndexOutOfBoundsException {
        requireIndex(bookmark, BOOKMARKS);
        return numberOf(tree.bookmarks[bookmark]);
    }

    public int lengthByReplay(int node) throws IndexOutOfBoundsException {
        return requireNode(node).state.size;
    }

    public int charByReplay(int node, int index) throws IndexOutOfBoundsException {
        State state = requireNode(node).state;
        requireIndex(index, state.size);
        return state.text[index];
    }

    public int markByReplay(int node, int mark) throws IndexOutOfBoundsException {
        State state = requireNode(node).state;
        requireIndex(mark, MARKS);
        return state.places[mark];
    }

    public int storedByReplay(int node, int store) throws IndexOutOfBoundsException {
        State state = requireNode(node).state;
        requireIndex(store, STORES);
        int characters = 0;
        for (int i = 0; i < state.entryCount(store); i++) {
            characters += state.entry(store, i).signs.length;
        }
        return characters;
    }

    public int entries(int store) throws IndexOutOfBoundsException {
        requireIndex(store, STORES);
        return live.state.entryCount(store);
    }

    public int entryLength(int store, int entry) throws IndexOutOfBoundsException {
        return requireEntry(store, entry).signs.length;
    }

    public int entryChar(int store, int entry, int index) throws IndexOutOfBoundsException {
        Chars chars = requireEntry(store, entry);
        requireIndex(index, chars.signs.length);
        return chars.signs[index];
    }

    public int commands(int macro) throws IndexOutOfBoundsException {
        requireIndex(macro, MACROS);
        return macros[macro].count;
    }

    public int failureReason() {
        return trial.lastReason;
    }

    public int failureCommand() {
        return trial.lastCommand;
    }

    public int listenerChain(int element) throws IndexOutOfBoundsException {
        requireIndex(element, DEPTHS);
        return listeners.chain[element];
    }

    // ---- what the document wants thrown

    private static void requireIndex(int index, int count) {
        if (index < 0 || index >= count) {
            throw new IndexOutOfBoundsException("there is none with this number");
        }
    }

    private static void requireRange(int value, int least, int greatest) {
        if (value < least || value > greatest) {
            throw new IllegalArgumentException("the argument is out of range");
        }
    }

    private static void requireCharacter(int character) {
        if (character != LINE_FEED && (character < FIRST_CHARACTER || character > LAST_CHARACTER)) {
            throw new IllegalArgumentException("the character is out of range");
        }
    }

    private Node requireNode(int number) {
        Node node = tree.find(number);
        if (node == null) {
            throw new IndexOutOfBoundsException("there is no such node");
        }
        return node;
    }

    private Chars requireEntry(int store, int entry) {
        requireIndex(store, STORES);
        requireIndex(entry, live.state.entryCount(store));
        return live.state.entry(store, entry);
    }

    private void refuseInGroup() {
        if (groupOpen) {
            throw new IllegalStateException("a group is open");
        }
    }

    private void requireCalmListeners() {
        if (!listeners.settle(live)) {
            live.takeAll(before);
            throw new IllegalStateException("listeners make a replacement at depth 8");
        }
    }

    // ---- a command that is called

    private int call(int command, int first, int second) {
        prepare();
        performOrRefuse(command, first, second);
        if (!groupOpen) {
            makeChange(false);
        }
        noteCommand(command, first, second);
        return answer;
    }

    private void prepare() {
        if (recording != NONE && recorded.count >= MACRO_COMMANDS) {
            throw new IllegalStateException("the recorded list is full");
        }
        before.takeAll(live);
    }

    private void performOrRefuse(int command, int first, int second) {
        if (perform(command, first, second) != DONE) {
            throw new IllegalStateException("the command cannot be done");
        }
    }

    private void noteCommand(int command, int first, int second) {
        typing = false;
        if (recording != NONE) {
            recorded.append(command, first, second);
        }
    }

    // ---- changes

    /** Makes a change of the steps so far, if there are any. */
    private void makeChange(boolean regionUndo) {
        if (live.steps.count > 0) {
            requireCalmListeners();
            makeNode(regionUndo);
        }
    }

    private void makeNode(boolean regionUndo) {
        Node node = new Node(tree.nextNumber, tree.current, live.state.size);
        node.regionUndo = regionUndo;
        node.steps.join(live.steps);
        live.steps.empty();
        keepState(node);
        tree.grow(node);
        tree.mergeToBudget();
    }

    private void keepState(Node node) {
        node.state.take(live.state, tracked);
        node.point = live.point;
    }

    private boolean continuesTyping(int character) {
        return typing && ticks < TYPING_TICKS && isLetterOrDigit(lastTyped) == isLetterOrDigit(character);
    }

    private static boolean isLetterOrDigit(int character) {
        return (character >= 'A' && character <= 'Z') || (character >= 'a' && character <= 'z') || (character >= '0' && character <= '9');
    }

    private void extendChange() {
        requireCalmListeners();
        Steps steps = tree.current.steps;
        // the insertion grows only now, as listeners might have thrown everything back
        if (steps.first != null) {
            steps.first.size++;
        }
        live.steps.dropFirst();
        steps.join(live.steps);
        live.steps.empty();
        keepState(tree.current);
    }

    // ---- walks and bookmarks

    private int goToNode(Node node) {
        if (node == null) {
            throw new IllegalStateException("there is no node to walk to");
        }
        tree.current = node;
        live.state.take(node.state, tracked);
        live.point = node.point;
        live.views = 0;
        typing = false;
        return node.number;
    }

    private int exchangeBookmark(int bookmark, Node node) {
        int was = numberOf(tree.bookmarks[bookmark]);
        tree.bookmarks[bookmark] = node;
        typing = false;
        return was;
    }

    private static int numberOf(Node node) {
        return node == null ? NONE : node.number;
    }

    private int lineFeedsAhead(int place) {
        int count = 0;
        for (int i = 0; i < place; i++) {
            if (live.state.text[i] == LINE_FEED) {
                count++;
            }
        }
        return count;
    }

    // ---- runs

    private boolean runMacro(int macro, int times, int level) {
        for (int time = 0; time < times; time++) {
            for (int index = 0; index < macros[macro].count; index++) {
                if (!start(macro, index, level)) {
                    return false;
                }
            }
        }
        return true;
    }

    private boolean start(int macro, int index, int level) {
        int where = 100 * macro + index;
        if (trial.started >= RUN_COMMANDS) {
            return trial.fail(TOO_MANY, where);
        }
        trial.started++;
        int command = macros[macro].commandList[index];
        int first = macros[macro].firstArguments[index];
        int second = macros[macro].secondArguments[index];
        if (command == RUN) {
            return level < RUN_LEVELS ? runMacro(first, second, level + 1) : trial.fail(TOO_DEEP, where);
        }
        if (command == CHECKPOINT) {
            checked.takeAll(live);
            trial.startedAtCheckpoint = trial.started;
            return true;
        }
        int reason = perform(command, first, second);
        return reason == DONE || trial.fail(reason, where);
    }

    // ---- what the commands do; each returns the reason for which it cannot be done

    private int perform(int command, int first, int second) {
        switch (command) {
            case INSERT: return putAtPoint(new Chars(new int[] {first}));
            case OVERWRITE: return putOver(first);
            case DELETE: return takeBehind(first);
            case MOVE: return goBy(first);
            case SEARCH: return goBehind(first);
            case KILL: return takeToRing(first);
            case YANK: return putAtPoint(live.state.entry(RING, 0));
            case ROTATE: return turnRing();
            case COPY: return keepInRegister(first, second);
            case PASTE: return putAtPoint(live.state.entry(first, 0));
            case SET_MARK: return markPoint(first, second == 1);
            case CLEAR_MARK: return unsetMark(first);
            case JUMP: return goToMark(first);
            case NARROW: return beginView(first);
            case WIDEN: return endView();
            default: return DONE;
        }
    }

    /** Puts in characters that there may be none of, as a store may be empty. */
    private int putAtPoint(Chars chars) {
        if (chars == null) {
            return NO_ENTRY;
        }
        if (!live.putIn(live.point, chars)) {
            return TOO_LONG;
        }
        live.point += chars.signs.length;
        answer = live.state.size;
        return DONE;
    }

    private int putOver(int sign) {
        if (!live.hasBehindPoint(1)) {
            return NOT_ENOUGH;
        }
        answer = live.state.text[live.point];
        live.putInstead(live.point, sign);
        live.point++;
        return DONE;
    }

    private int takeBehind(int count) {
        if (!live.hasBehindPoint(count)) {
            return NOT_ENOUGH;
        }
        live.takeOut(live.point, count);
        answer = live.state.size;
        return DONE;
    }

    private int takeToRing(int count) {
        if (!live.hasBehindPoint(count)) {
            return NOT_ENOUGH;
        }
        live.state.pushOnRing(live.takeOut(live.point, count));
        answer = live.state.entryCount(RING);
        return storeWasSet(RING);
    }

    private int turnRing() {
        if (live.state.entryCount(RING) < 2) {
            return NO_ENTRY;
        }
        live.state.turnRing();
        answer = live.state.entryCount(RING);
        return storeWasSet(RING);
    }

    private int keepInRegister(int register, int count) {
        if (!live.hasBehindPoint(count)) {
            return NOT_ENOUGH;
        }
        Chars was = live.state.entry(register, 0);
        answer = was == null ? 0 : was.signs.length;
        live.state.stored[register] = live.state.charsFrom(live.point, count);
        return storeWasSet(register);
    }

    private int storeWasSet(int store) {
        if (tracked[store]) {
            live.addStep(STORING);
        }
        return DONE;
    }

    private int goBy(int distance) {
        return goToPlace(live.point + distance, NOT_ENOUGH);
    }

    private int goBehind(int sign) {
        int index = live.state.indexOfSign(sign, live.point, live.high());
        return index == NONE ? NOT_FOUND : goToPlace(index + 1, NOT_FOUND);
    }

    private int goToMark(int mark) {
        return goToPlace(live.state.places[mark], NO_MARK);
    }

    private int goToPlace(int place, int reason) {
        if (!live.isInView(place)) {
            return reason;
        }
        live.point = place;
        answer = place;
        return DONE;
    }

    private int markPoint(int mark, boolean right) {
        answer = live.state.places[mark];
        live.state.places[mark] = live.point;
        live.state.rights[mark] = right;
        live.addStep(MARKING);
        return DONE;
    }

    private int unsetMark(int mark) {
        answer = live.state.places[mark];
        if (answer == NONE) {
            return NO_MARK;
        }
        live.state.places[mark] = NONE;
        live.addStep(MARKING);
        return DONE;
    }

    private int beginView(int mark) {
        int place = live.state.places[mark];
        if (!live.isInView(place)) {
            return NO_MARK;
        }
        if (live.views >= MAX_VIEWS) {
            return VIEWS;
        }
        live.starts[live.views] = Math.min(place, live.point);
        live.ends[live.views] = Math.max(place, live.point);
        live.views++;
        answer = live.views;
        return DONE;
    }

    private int endView() {
        if (live.views == 0) {
            return VIEWS;
        }
        live.views--;
        answer = live.views;
        return DONE;
    }

    /** A run of characters that never changes, so that steps, stores and states can share it. */
    private static final class Chars {
        final int[] signs;

        Chars(int[] signs) {
            this.signs = signs;
        }
    }

    /** A step. As each node keeps its state, a step keeps only what traces and opposites need. */
    private static final class Step {
        final int kind;
        final int place;
        // the characters that a deletion or a replacement took away, null for the other kinds
        final Chars gone;
        // how many characters a text step inserts, deletes or replaces
        int size;
        Step next;

        Step(int kind, int place, int size, Chars gone) {
            this.kind = kind;
            this.place = place;
            this.size = size;
            this.gone = gone;
        }
    }

    /** A chain of steps. */
    private static final class Steps {
        Step first;
        Step last;
        int count;
        int textSteps;

        void append(Step step) {
            if (last == null) {
                first = step;
            } else {
                last.next = step;
            }
            last = step;
            count++;
            if (step.kind <= REPLACEMENT) {
                textSteps++;
            }
        }

        void join(Steps more) {
            if (more.first == null) {
                return;
            }
            if (last == null) {
                first = more.first;
            } else {
                last.next = more.first;
            }
            last = more.last;
            count += more.count;
            textSteps += more.textSteps;
        }

        /** Drops the first step, which is a text step. */
        void dropFirst() {
            if (first == null) {
                return;
            }
            first = first.next;
            if (first == null) {
                last = null;
            }
            count--;
            textSteps--;
        }

        void empty() {
            first = null;
            last = null;
            count = 0;
            textSteps = 0;
        }

        /** Takes over the extent of a chain; steps that came behind it since are cut off. */
        void takeExtent(Steps other) {
            first = other.first;
            last = other.last;
            count = other.count;
            textSteps = other.textSteps;
            if (last != null) {
                last.next = null;
            }
        }
    }

    /** What steps set: the text, the marks and the stores. */
    private static final class State {
        int[] text;
        int size;
        // NONE for an unset mark: it lies ahead of every place, so that no step moves it
        final int[] places = new int[MARKS];
        final boolean[] rights = new boolean[MARKS];
        // a register at its number, the entries of the kill ring from RING on, front first
        final Chars[] stored = new Chars[REGISTERS + RING_ENTRIES];

        State(int room) {
            text = new int[Math.max(0, room)];
            for (int i = 0; i < MARKS; i++) {
                places[i] = NONE;
            }
        }

        /** Where a place comes to lie when characters are inserted. */
        static int placeAfterInsertion(int place, boolean right, int where, int count) {
            return place > where || (right && place == where) ? place + count : place;
        }

        /** Where a place comes to lie when characters are deleted. */
        static int placeAfterDeletion(int place, int where, int count) {
            return place > where + count ? place - count : Math.min(place, where);
        }

        boolean putIn(int where, Chars chars) {
            int count = chars.signs.length;
            if (where < 0 || where > size || count > text.length - size) {
                return false;
            }
            System.arraycopy(text, where, text, where + count, size - where);
            System.arraycopy(chars.signs, 0, text, where, count);
            size += count;
            for (int i = 0; i < MARKS; i++) {
                places[i] = placeAfterInsertion(places[i], rights[i], where, count);
            }
            return true;
        }

        /** Takes characters out; charsFrom() has told that they are there. */
        void takeOut(int where, int count) {
            System.arraycopy(text, where + count, text, where, size - where - count);
            size -= count;
            for (int i = 0; i < MARKS; i++) {
                places[i] = placeAfterDeletion(places[i], where, count);
            }
        }

        /** Returns null if there are no such characters. */
        Chars charsFrom(int where, int count) {
            if (where < 0 || count < 0 || where > size - count) {
                return null;
            }
            int[] signs = new int[count];
            System.arraycopy(text, where, signs, 0, count);
            return new Chars(signs);
        }

        int indexOfSign(int sign, int from, int to) {
            int end = Math.min(to, size);
            for (int i = Math.max(0, from); i < end; i++) {
                if (text[i] == sign) {
                    return i;
                }
            }
            return NONE;
        }

        static int slots(int store) {
            return store == RING ? RING_ENTRIES : 1;
        }

        int entryCount(int store) {
            int count = 0;
            while (count < slots(store) && stored[store + count] != null) {
                count++;
            }
            return count;
        }

        Chars entry(int store, int entry) {
            return stored[store + entry];
        }

        void pushOnRing(Chars chars) {
            for (int i = RING_ENTRIES - 1; i > 0; i--) {
                stored[RING + i] = stored[RING + i - 1];
            }
            stored[RING] = chars;
        }

        void turnRing() {
            int last = entryCount(RING) - 1;
            Chars front = stored[RING];
            for (int i = 0; i < last; i++) {
                stored[RING + i] = stored[RING + i + 1];
            }
            stored[RING + Math.max(0, last)] = front;
        }

        void takeTextAndMarks(State other) {
            if (text.length < other.size) {
                text = new int[other.size];
            }
            System.arraycopy(other.text, 0, text, 0, other.size);
            size = other.size;
            for (int i = 0; i < MARKS; i++) {
                places[i] = other.places[i];
                rights[i] = other.rights[i];
            }
        }

        void takeStore(State other, int store) {
            for (int i = 0; i < slots(store); i++) {
                stored[store + i] = other.stored[store + i];
            }
        }

        /** Takes over what nodes keep: the stores that are not tracked stay as they are. */
        void take(State other, boolean[] tracked) {
            takeTextAndMarks(other);
            for (int store = 0; store < tracked.length; store++) {
                if (tracked[store]) {
                    takeStore(other, store);
                }
            }
        }
    }

    /** A state that is worked on, with the point, the views, and the steps that are no change yet. */
    private static final class Desk {
        final State state = new State(MAX_TEXT);
        final Steps steps = new Steps();
        final int[] starts = new int[MAX_VIEWS];
        final int[] ends = new int[MAX_VIEWS];
        int views;
        int point;

        int low() {
            return views == 0 ? 0 : starts[views - 1];
        }

        int high() {
            return views == 0 ? state.size : ends[views - 1];
        }

        boolean isInView(int place) {
            return place >= low() && place <= high();
        }

        boolean hasBehindPoint(int count) {
            return high() - point >= count;
        }

        /** Adds a step that is no text step. */
        void addStep(int kind) {
            steps.append(new Step(kind, 0, 0, null));
        }

        boolean putIn(int where, Chars chars) {
            if (!state.putIn(where, chars)) {
                return false;
            }
            int count = chars.signs.length;
            steps.append(new Step(INSERTION, where, count, null));
            point = State.placeAfterInsertion(point, false, where, count);
            for (int i = 0; i < views; i++) {
                starts[i] = State.placeAfterInsertion(starts[i], false, where, count);
                ends[i] = State.placeAfterInsertion(ends[i], true, where, count);
            }
            return true;
        }

        /** Returns what it took, null if there are no such characters. */
        Chars takeOut(int where, int count) {
            Chars gone = state.charsFrom(where, count);
            if (gone == null) {
                return null;
            }
            state.takeOut(where, count);
            steps.append(new Step(DELETION, where, count, gone));
            point = State.placeAfterDeletion(point, where, count);
            for (int i = 0; i < views; i++) {
                starts[i] = State.placeAfterDeletion(starts[i], where, count);
                ends[i] = State.placeAfterDeletion(ends[i], where, count);
            }
            return gone;
        }

        void putInstead(int index, int sign) {
            Chars gone = state.charsFrom(index, 1);
            if (gone == null) {
                return;
            }
            steps.append(new Step(REPLACEMENT, index, 1, gone));
            state.text[index] = sign;
        }

        void takeAll(Desk other) {
            state.takeTextAndMarks(other.state);
            for (int store = 0; store < STORES; store++) {
                state.takeStore(other.state, store);
            }
            takePlacesAndSteps(other);
        }

        /** Takes over all but the stores that are not tracked. */
        void takeBack(Desk other, boolean[] tracked) {
            state.take(other.state, tracked);
            takePlacesAndSteps(other);
        }

        private void takePlacesAndSteps(Desk other) {
            point = other.point;
            views = other.views;
            for (int i = 0; i < MAX_VIEWS; i++) {
                starts[i] = other.starts[i];
                ends[i] = other.ends[i];
            }
            steps.takeExtent(other.steps);
        }
    }

    /** A node with its change, and the state that replaying the path from the root leads to. */
    private static final class Node {
        final int number;
        final State state;
        Steps steps = new Steps();
        Node parent;
        // the next node on the path to the current one, while traces are followed
        Node below;
        int children;
        int point;
        boolean regionUndo;

        Node(int number, Node parent, int room) {
            this.number = number;
            this.parent = parent;
            this.state = new State(room);
        }
    }

    /** The nodes, the current one, the bookmarks and the budget. */
    private static final class Tree {
        // by increasing number
        final List<Node> list = new ArrayList<Node>();
        final Node[] bookmarks = new Node[BOOKMARKS];
        Node current = new Node(0, null, 0);
        int nextNumber = 1;
        int budget = MAX_BUDGET;

        Tree() {
            list.add(current);
        }

        Node find(int number) {
            // no number is less than its index in the list
            for (int i = Math.min(number, list.size() - 1); i >= 0; i--) {
                Node node = list.get(i);
                if (node.number <= number) {
                    return node.number == number ? node : null;
                }
            }
            return null;
        }

        Node lastChild(Node parent) {
            for (int i = list.size() - 1; i >= 0; i--) {
                Node node = list.get(i);
                if (node.parent == parent) {
                    return node;
                }
            }
            return null;
        }

        /** How many changes lie between two nodes; a parent always has a lesser number than its child. */
        int distance(Node from, Node to) {
            int changes = 0;
            Node one = from;
            Node other = to;
            while (one != null && other != null && one != other) {
                if (one.number > other.number) {
                    one = one.parent;
                } else {
                    other = other.parent;
                }
                changes++;
            }
            return changes;
        }

        void grow(Node node) {
            current.children++;
            list.add(node);
            nextNumber++;
            current = node;
        }

        /** One way through the list is enough: a merge makes no node ahead of it fit to be merged. */
        int mergeToBudget() {
            int merged = 0;
            int index = 0;
            while (index < list.size() && list.size() > budget) {
                Node node = list.get(index);
                if (canBeMerged(node)) {
                    mergeIntoChild(node);
                    list.remove(index);
                    merged++;
                } else {
                    index++;
                }
            }
            return merged;
        }

        private boolean canBeMerged(Node node) {
            if (node.parent == null || node == current || node.children != 1) {
                return false;
            }
            for (int i = 0; i < BOOKMARKS; i++) {
                if (bookmarks[i] == node) {
                    return false;
                }
            }
            return true;
        }

        private void mergeIntoChild(Node node) {
            Node child = lastChild(node);
            if (child == null) {
                return;
            }
            node.steps.join(child.steps);
            child.steps = node.steps;
            child.parent = node.parent;
            child.regionUndo = child.regionUndo && node.regionUndo;
        }
    }

    /** The listeners and the chain of those that went too deep. */
    private static final class Listeners {
        final boolean[] active = new boolean[LISTENERS];
        final int[] wanted = new int[LISTENERS];
        final int[] instead = new int[LISTENERS];
        final int[] ranks = new int[LISTENERS];
        final int[] chain = new int[DEPTHS];
        private final int[] acting = new int[DEPTHS];

        Listeners() {
            for (int i = 0; i < DEPTHS; i++) {
                chain[i] = NONE;
            }
        }

        void activate(int listener, int from, int to, int rank) {
            active[listener] = true;
            wanted[listener] = from;
            instead[listener] = to;
            ranks[listener] = rank;
        }

        /**
         * Notifies all listeners of a change; returns false at a replacement at depth 8. At each depth only one
         * replacement is made: when the notifying of it has ended, no listener finds its character any more.
         */
        boolean settle(Desk desk) {
            for (int depth = 0; depth < DEPTHS; depth++) {
                int listener = firstToFind(desk.state);
                if (listener == NONE) {
                    return true;
                }
                int index = desk.state.indexOfSign(wanted[listener], 0, desk.state.size);
                desk.putInstead(index, instead[listener]);
                acting[depth] = listener;
            }
            System.arraycopy(acting, 0, chain, 0, DEPTHS);
            return false;
        }

        private int firstToFind(State state) {
            int first = NONE;
            for (int i = 0; i < LISTENERS; i++) {
                boolean earlier = active[i] && (first == NONE || ranks[i] < ranks[first]);
                if (earlier && state.indexOfSign(wanted[i], 0, state.size) != NONE) {
                    first = i;
                }
            }
            return first;
        }
    }

    /** A list of commands with their arguments. */
    private static final class Macro {
        final int[] commandList = new int[MACRO_COMMANDS];
        final int[] firstArguments = new int[MACRO_COMMANDS];
        final int[] secondArguments = new int[MACRO_COMMANDS];
        int count;

        void append(int command, int first, int second) {
            if (count < MACRO_COMMANDS) {
                commandList[count] = command;
                firstArguments[count] = first;
                secondArguments[count] = second;
                count++;
            }
        }

        void takeList(Macro other) {
            count = 0;
            for (int i = 0; i < other.count; i++) {
                append(other.commandList[i], other.firstArguments[i], other.secondArguments[i]);
            }
        }
    }

    /** How a run that is called goes, and how the latest one that did not throw went. */
    private static final class Trial {
        int started;
        int startedAtCheckpoint;
        int reason;
        int place = NONE;
        int lastReason;
        int lastCommand = NONE;

        void begin() {
            started = 0;
            startedAtCheckpoint = 0;
            reason = DONE;
            place = NONE;
        }

        boolean fail(int why, int where) {
            reason = why;
            place = where;
            return false;
        }

        void publish() {
            lastReason = reason;
            lastCommand = place;
        }
    }

    /** Where the characters of a text step are now. */
    private static final class Trace {
        Step step;
        int start;
        int end;
        boolean covered;
        // the text steps of its change, a bit each, that were deletions and moved it back
        int movedBackBy;

        void begin(Step text) {
            step = text;
            start = text.place;
            end = text.kind == DELETION ? text.place : text.place + text.size;
            covered = false;
            movedBackBy = 0;
        }

        void meet(int kind, int place, int count) {
            if (kind == INSERTION) {
                meetInsertion(place, count);
            } else if (kind == DELETION) {
                meetDeletion(place, count);
            } else if (kind == REPLACEMENT && place >= start && place < end) {
                covered = true;
            }
        }

        private void meetInsertion(int place, int count) {
            if (place < start || (place == start && start < end)) {
                shift(count);
            } else if (place < end || place == start) {
                covered = true;
            }
        }

        private void meetDeletion(int place, int count) {
            if (place + count <= start) {
                shift(-count);
            } else if (place < end) {
                covered = true;
            }
        }

        void shift(int distance) {
            start += distance;
            end += distance;
        }
    }

    /** The traces of the text steps of one change. */
    private static final class Traces {
        private final Trace[] list = new Trace[MAX_TRACES];
        private int count;

        Traces() {
            for (int i = 0; i < MAX_TRACES; i++) {
                list[i] = new Trace();
            }
        }

        /** Finds the latest change that can be undone in a region; its traces are in the list then. */
        boolean find(Node current, int from, int to) {
            Node below = null;
            for (Node node = current; node != null; node = node.parent) {
                node.below = below;
                below = node;
                boolean fits = !node.regionUndo && node.steps.textSteps >= 1 && node.steps.textSteps <= MAX_TRACES;
                if (fits && follow(node) && meetRegion(from, to)) {
                    return true;
                }
            }
            return false;
        }

        /** Follows the traces of a change to the current node; returns false if one is covered. */
        private boolean follow(Node node) {
            count = 0;
            for (Step step = node.steps.first; step != null; step = step.next) {
                meetOwnStep(step);
                if (step.kind <= REPLACEMENT && count < MAX_TRACES) {
                    list[count].begin(step);
                    count++;
                }
            }
            for (Node later = node.below; later != null; later = later.below) {
                for (Step step = later.steps.first; step != null; step = step.next) {
                    meetStep(step);
                }
            }
            return !oneIsCovered();
        }

        private void meetOwnStep(Step step) {
            for (int i = 0; i < count; i++) {
                Trace trace = list[i];
                int was = trace.start;
                trace.meet(step.kind, step.place, step.size);
                if (trace.start < was) {
                    // the step's own trace will be the next in the list
                    trace.movedBackBy |= 1 << count;
                }
            }
        }

        private void meetStep(Step step) {
            for (int i = 0; i < count; i++) {
                list[i].meet(step.kind, step.place, step.size);
            }
        }

        private boolean oneIsCovered() {
            for (int i = 0; i < count; i++) {
                if (list[i].covered) {
                    return true;
                }
            }
            return false;
        }

        private boolean meetRegion(int from, int to) {
            for (int i = 0; i < count; i++) {
                if (list[i].start <= to && list[i].end >= from) {
                    return true;
                }
            }
            return false;
        }

        /** Returns false if the text would be too long. */
        boolean doOpposites(Desk desk) {
            for (int i = count - 1; i >= 0; i--) {
                if (!doOpposite(desk, i)) {
                    return false;
                }
            }
            return true;
        }

        private boolean doOpposite(Desk desk, int index) {
            Step step = list[index].step;
            int start = list[index].start;
            if (step.kind == INSERTION) {
                meetOpposite(index, DELETION, start, step.size);
                return desk.takeOut(start, step.size) != null;
            }
            if (step.gone == null) {
                return false;
            }
            if (step.kind == DELETION) {
                meetOpposite(index, INSERTION, start, step.size);
                return desk.putIn(start, step.gone);
            }
            // no trace that is not covered holds a character of another one
            desk.putInstead(start, step.gone.signs[0]);
            return true;
        }

        private void meetOpposite(int index, int kind, int place, int size) {
            for (int i = 0; i < index; i++) {
                Trace trace = list[i];
                if (kind == INSERTION && trace.start == place && trace.end == place) {
                    if ((trace.movedBackBy >> index & 1) == 1) {
                        trace.shift(size);
                    }
                } else {
                    trace.meet(kind, place, size);
                }
            }
        }
    }
}
