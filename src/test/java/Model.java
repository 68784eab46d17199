import java.util.ArrayList;
import java.util.Arrays;
import java.util.Collections;
import java.util.List;
import java.util.Map;
import java.util.TreeMap;

/**
 * The document once more, as plainly as possible and by other means than Foldback: states are really replayed from
 * the root, listeners really call one another, and a call works on a copy that is thrown away if it throws.
 */
final class Model {
    /** Thrown inside a run by a command that cannot be done. */
    private static final class Cannot extends RuntimeException {
        final int reason;

        Cannot(int reason) {
            super(null, null, false, false);
            this.reason = reason;
        }
    }

    private static final class RunFailed extends RuntimeException {
        final int reason;
        final int command;

        RunFailed(int reason, int command) {
            super(null, null, false, false);
            this.reason = reason;
            this.command = command;
        }
    }

    private static final class TooDeep extends RuntimeException {
        final List<Integer> chain;

        TooDeep(List<Integer> chain) {
            super(null, null, false, false);
            this.chain = chain;
        }
    }

    /** kind: i(nsert) d(elete) r(eplace) m(ark) s(tore). */
    record Step(char kind, int at, String text, String old, int mark, int place, boolean right, int store, List<String> contents) {
        static Step insert(int at, String text) {
            return new Step('i', at, text, "", 0, 0, false, 0, null);
        }

        static Step delete(int at, String text) {
            return new Step('d', at, text, "", 0, 0, false, 0, null);
        }

        static Step replace(int at, String text, String old) {
            return new Step('r', at, text, old, 0, 0, false, 0, null);
        }

        static Step mark(int mark, int place, boolean right) {
            return new Step('m', 0, "", "", mark, place, right, 0, null);
        }

        static Step store(int store, List<String> contents) {
            return new Step('s', 0, "", "", 0, 0, false, store, List.copyOf(contents));
        }

        boolean isText() {
            return kind == 'i' || kind == 'd' || kind == 'r';
        }
    }

    static final class State {
        StringBuilder text = new StringBuilder();
        int[] marks = {-1, -1, -1, -1, -1, -1};
        boolean[] rights = new boolean[6];
        List<List<String>> stores = new ArrayList<>();

        State() {
            for (int i = 0; i < 5; i++) {
                stores.add(List.of());
            }
        }

        State copy() {
            State c = new State();
            c.text = new StringBuilder(text);
            c.marks = marks.clone();
            c.rights = rights.clone();
            c.stores = new ArrayList<>(stores);
            return c;
        }

        void apply(Step s) {
            switch (s.kind()) {
                case 'i' -> text.insert(s.at(), s.text());
                case 'd' -> {
                    if (!text.substring(s.at(), s.at() + s.text().length()).equals(s.text())) {
                        throw new AssertionError("a deletion that does not fit its state");
                    }
                    text.delete(s.at(), s.at() + s.text().length());
                }
                case 'r' -> {
                    if (!text.substring(s.at(), s.at() + 1).equals(s.old())) {
                        throw new AssertionError("a replacement that does not fit its state");
                    }
                    text.replace(s.at(), s.at() + 1, s.text());
                }
                case 'm' -> {
                    marks[s.mark()] = s.place();
                    rights[s.mark()] = s.right();
                }
                default -> stores.set(s.store(), s.contents());
            }
            if (s.isText()) {
                for (int i = 0; i < 6; i++) {
                    marks[i] = marks[i] < 0 ? -1 : moved(marks[i], rights[i], s);
                }
            }
        }
    }

    static int moved(int place, boolean right, Step s) {
        int k = s.text().length();
        if (s.kind() == 'i') {
            return place > s.at() ? place + k : place == s.at() && right ? place + k : place;
        }
        if (s.kind() == 'd') {
            return place > s.at() + k ? place - k : place >= s.at() ? s.at() : place;
        }
        return place;
    }

    static final class Node {
        int number;
        int parent;
        int point;
        boolean region;
        boolean byInsert;
        boolean merged;
        boolean replaced;
        List<Step> steps = new ArrayList<>();

        Node copy() {
            Node c = new Node();
            c.number = number;
            c.parent = parent;
            c.point = point;
            c.region = region;
            c.byInsert = byInsert;
            c.merged = merged;
            c.replaced = replaced;
            c.steps = new ArrayList<>(steps);
            return c;
        }
    }

    record Command(String name, int a, int b) {
    }

    /** Everything that a call may change. */
    static final class All {
        State state = new State();
        int point;
        List<int[]> views = new ArrayList<>();
        TreeMap<Integer, Node> nodes = new TreeMap<>();
        int current;
        int next = 1;
        boolean[] tracked = new boolean[5];
        List<List<Command>> macros = new ArrayList<>(Collections.nCopies(4, List.of()));
        List<Command> recorded = null;
        int recording = -1;
        boolean group;
        List<Step> pending = new ArrayList<>();
        int[] bookmarks = {-1, -1, -1, -1, -1};
        int budget = 600;
        int[][] listeners = new int[3][];
        boolean typing;
        int lastTyped;
        int ticks;
        int reason;
        int command = -1;

        All copy() {
            All c = new All();
            c.state = state.copy();
            c.point = point;
            c.views = copyViews(views);
            for (Map.Entry<Integer, Node> e : nodes.entrySet()) {
                c.nodes.put(e.getKey(), e.getValue().copy());
            }
            c.current = current;
            c.next = next;
            c.tracked = tracked.clone();
            c.macros = new ArrayList<>(macros);
            c.recorded = recorded == null ? null : new ArrayList<>(recorded);
            c.recording = recording;
            c.group = group;
            c.pending = new ArrayList<>(pending);
            c.bookmarks = bookmarks.clone();
            c.budget = budget;
            c.listeners = listeners.clone();
            c.typing = typing;
            c.lastTyped = lastTyped;
            c.ticks = ticks;
            c.reason = reason;
            c.command = command;
            return c;
        }
    }

    static List<int[]> copyViews(List<int[]> views) {
        List<int[]> c = new ArrayList<>();
        for (int[] v : views) {
            c.add(v.clone());
        }
        return c;
    }

    All it = new All();
    int[] chain = {-1, -1, -1, -1, -1, -1, -1, -1};

    // a checkpoint of the run that is going on
    private State checkState;
    private int checkPoint;
    private List<int[]> checkViews;
    private int checkSteps;
    private int checkStarted;
    private int started;

    Model() {
        Node root = new Node();
        root.parent = -1;
        it.nodes.put(0, root);
    }

    // ---- the frame of each call

    /** Makes a call by its name; throws what the document says, and changes nothing then. */
    int call(String name, int... a) {
        check(name, a);
        All kept = it;
        it = kept.copy();
        try {
            boolean typingGoesOn = name.equals("pass");
            int answer = isCommand(name) ? called(new Command(name, arg(a, 0), arg(a, 1))) : other(name, a);
            if (!typingGoesOn && !name.equals("insert")) {
                it.typing = false;
            }
            return answer;
        } catch (TooDeep e) {
            it = kept;
            for (int i = 0; i < 8; i++) {
                chain[i] = e.chain.get(i);
            }
            throw new IllegalStateException();
        } catch (Cannot e) {
            it = kept;
            throw new IllegalStateException();
        } catch (IllegalStateException e) {
            it = kept;
            throw e;
        }
    }

    private static int arg(int[] a, int i) {
        return i < a.length ? a[i] : 0;
    }

    static boolean isCommand(String name) {
        return List.of("insert", "overwrite", "delete", "move", "search", "kill", "yank", "rotate", "copy", "paste", "setMark",
                "clearMark", "jump", "narrow", "widen", "run", "checkpoint").contains(name);
    }

    private static void index(int value, int count) {
        if (value < 0 || value >= count) {
            throw new IndexOutOfBoundsException();
        }
    }

    private static void range(int value, int low, int high) {
        if (value < low || value > high) {
            throw new IllegalArgumentException();
        }
    }

    private static void character(int c) {
        if (c != 10) {
            range(c, 32, 126);
        }
    }

    private void check(String name, int[] a) {
        switch (name) {
            case "insert", "overwrite", "search" -> character(a[0]);
            case "delete", "kill" -> range(a[0], 1, 20);
            case "move" -> range(a[0], -50, 50);
            case "copy" -> {
                index(a[0], 4);
                range(a[1], 1, 20);
            }
            case "paste", "record" -> index(a[0], 4);
            case "setMark", "clearMark", "jump", "narrow" -> index(a[0], 6);
            case "run" -> {
                index(a[0], 4);
                range(a[1], 1, 10);
            }
            case "pass" -> range(a[0], 1, 100);
            case "track", "setBookmark", "clearBookmark" -> index(a[0], 5);
            case "walk" -> {
                if (!it.nodes.containsKey(a[0])) {
                    throw new IndexOutOfBoundsException();
                }
            }
            case "undoIn" -> {
                range(a[0], 0, it.state.text.length());
                range(a[1], a[0], it.state.text.length());
            }
            case "setBudget" -> range(a[0], 2, 600);
            case "listen" -> {
                index(a[0], 3);
                character(a[1]);
                character(a[2]);
                range(a[3], 0, 9);
                if (a[1] == a[2]) {
                    throw new IllegalArgumentException();
                }
            }
            case "unlisten" -> index(a[0], 3);
            default -> {
            }
        }
    }

    private static void state(boolean holds) {
        if (!holds) {
            throw new IllegalStateException();
        }
    }

    // ---- commands

    private int called(Command c) {
        state(it.recording < 0 || it.recorded.size() < 16);
        int from = it.pending.size();
        int answer = c.name().equals("run") ? calledRun(c) : execute(c);
        boolean insert = c.name().equals("insert");
        if (!it.group && !it.pending.isEmpty()) {
            if (insert && extendsTyping(c.a())) {
                extend();
            } else {
                makeChange(false, insert);
            }
        }
        if (it.group && it.pending.size() < from) {
            throw new AssertionError("steps of the group are lost");
        }
        if (insert) {
            it.typing = !it.group;
            it.lastTyped = c.a();
            it.ticks = 0;
        }
        if (it.recording >= 0) {
            it.recorded.add(c);
        }
        return answer;
    }

    private boolean extendsTyping(int c) {
        Node n = it.nodes.get(it.current);
        return it.typing && n.byInsert && !n.merged && !n.replaced && it.ticks < 4
                && Character.isLetterOrDigit(c) == Character.isLetterOrDigit(it.lastTyped);
    }

    private void extend() {
        Node n = it.nodes.get(it.current);
        Step typed = it.pending.get(0);
        Step first = n.steps.get(0);
        if (n.steps.size() != 1 || typed.at() != first.at() + first.text().length()) {
            throw new AssertionError("typing that is not at the end");
        }
        int replacements = notifyAll2();
        n.steps.set(0, Step.insert(first.at(), first.text() + typed.text()));
        n.steps.addAll(it.pending.subList(1, it.pending.size()));
        n.replaced |= replacements > 0;
        n.point = it.point;
        it.pending.clear();
    }

    private int notifyAll2() {
        int was = it.pending.size();
        notifyListeners(1, new ArrayList<>());
        return it.pending.size() - was;
    }

    private void notifyListeners(int depth, List<Integer> path) {
        List<Integer> order = new ArrayList<>();
        for (int i = 0; i < 3; i++) {
            if (it.listeners[i] != null) {
                order.add(i);
            }
        }
        order.sort((x, y) -> it.listeners[x][2] != it.listeners[y][2]
                ? Integer.compare(it.listeners[x][2], it.listeners[y][2]) : Integer.compare(x, y));
        for (int l : order) {
            int at = it.state.text.indexOf(String.valueOf((char) it.listeners[l][0]));
            if (at < 0) {
                continue;
            }
            path.add(l);
            if (depth == 8) {
                throw new TooDeep(path);
            }
            step(Step.replace(at, String.valueOf((char) it.listeners[l][1]), it.state.text.substring(at, at + 1)));
            notifyListeners(depth + 1, path);
            path.remove(path.size() - 1);
        }
    }

    private void makeChange(boolean region, boolean byInsert) {
        int replacements = notifyAll2();
        Node n = new Node();
        n.number = it.next++;
        n.parent = it.current;
        n.point = it.point;
        n.region = region;
        n.byInsert = byInsert;
        n.replaced = replacements > 0;
        n.steps = it.pending;
        it.pending = new ArrayList<>();
        it.nodes.put(n.number, n);
        it.current = n.number;
        merge();
    }

    private int merge() {
        int merged = 0;
        while (it.nodes.size() > it.budget) {
            Node victim = null;
            for (Node n : it.nodes.values()) {
                if (n.number != 0 && n.number != it.current && children(n.number).size() == 1 && !bookmarked(n.number)) {
                    victim = n;
                    break;
                }
            }
            if (victim == null) {
                break;
            }
            Node child = it.nodes.get(children(victim.number).get(0));
            List<Step> steps = new ArrayList<>(victim.steps);
            steps.addAll(child.steps);
            child.steps = steps;
            child.parent = victim.parent;
            child.region &= victim.region;
            child.merged = true;
            it.nodes.remove(victim.number);
            merged++;
        }
        return merged;
    }

    private boolean bookmarked(int node) {
        for (int b : it.bookmarks) {
            if (b == node) {
                return true;
            }
        }
        return false;
    }

    List<Integer> children(int node) {
        List<Integer> c = new ArrayList<>();
        for (Node n : it.nodes.values()) {
            if (n.parent == node) {
                c.add(n.number);
            }
        }
        return c;
    }

    /** Does a step on the present state, its views and its point. */
    private void step(Step s) {
        it.pending.add(s);
        it.state.apply(s);
        if (s.isText()) {
            it.point = moved(it.point, false, s);
            for (int[] v : it.views) {
                v[0] = moved(v[0], false, s);
                v[1] = moved(v[1], true, s);
            }
        }
    }

    int low() {
        return it.views.isEmpty() ? 0 : it.views.get(it.views.size() - 1)[0];
    }

    int high() {
        return it.views.isEmpty() ? it.state.text.length() : it.views.get(it.views.size() - 1)[1];
    }

    private static void need(boolean holds, int reason) {
        if (!holds) {
            throw new Cannot(reason);
        }
    }

    private void setStore(int store, List<String> contents) {
        if (it.tracked[store]) {
            step(Step.store(store, contents));
        } else {
            it.state.stores.set(store, List.copyOf(contents));
        }
    }

    private int put(String s) {
        need(it.state.text.length() + s.length() <= 400, 5);
        int at = it.point;
        step(Step.insert(at, s));
        it.point = at + s.length();
        return it.state.text.length();
    }

    private String cut(int count) {
        need(it.point + count <= high(), 1);
        String s = it.state.text.substring(it.point, it.point + count);
        step(Step.delete(it.point, s));
        return s;
    }

    private int go(int place, int reason) {
        need(place >= low() && place <= high(), reason);
        it.point = place;
        return place;
    }

    private int execute(Command c) {
        List<List<String>> stores = it.state.stores;
        switch (c.name()) {
            case "insert":
                return put(String.valueOf((char) c.a()));
            case "overwrite": {
                need(it.point < high(), 1);
                char old = it.state.text.charAt(it.point);
                step(Step.replace(it.point, String.valueOf((char) c.a()), String.valueOf(old)));
                it.point++;
                return old;
            }
            case "delete":
                cut(c.a());
                return it.state.text.length();
            case "move":
                return go(it.point + c.a(), 1);
            case "search": {
                int at = it.state.text.substring(0, high()).indexOf(c.a(), it.point);
                need(at >= 0, 2);
                return go(at + 1, 2);
            }
            case "kill": {
                List<String> ring = new ArrayList<>();
                ring.add(cut(c.a()));
                ring.addAll(stores.get(4));
                setStore(4, ring.subList(0, Math.min(4, ring.size())));
                return it.state.stores.get(4).size();
            }
            case "yank":
                need(!stores.get(4).isEmpty(), 4);
                return put(stores.get(4).get(0));
            case "rotate": {
                need(stores.get(4).size() >= 2, 4);
                List<String> ring = new ArrayList<>(stores.get(4));
                Collections.rotate(ring, -1);
                setStore(4, ring);
                return ring.size();
            }
            case "copy": {
                need(it.point + c.b() <= high(), 1);
                int was = stores.get(c.a()).isEmpty() ? 0 : stores.get(c.a()).get(0).length();
                setStore(c.a(), List.of(it.state.text.substring(it.point, it.point + c.b())));
                return was;
            }
            case "paste":
                need(!stores.get(c.a()).isEmpty(), 4);
                return put(stores.get(c.a()).get(0));
            default:
                return executeOnMarks(c);
        }
    }

    private int executeOnMarks(Command c) {
        int was = c.name().equals("widen") || c.name().equals("checkpoint") ? -1 : it.state.marks[c.a()];
        boolean inView = was >= low() && was <= high();
        switch (c.name()) {
            case "setMark":
                step(Step.mark(c.a(), it.point, c.b() == 1));
                return was;
            case "clearMark":
                need(was >= 0, 3);
                step(Step.mark(c.a(), -1, false));
                return was;
            case "jump":
                need(inView, 3);
                it.point = was;
                return was;
            case "narrow":
                need(inView, 3);
                need(it.views.size() < 4, 6);
                it.views.add(new int[] {Math.min(was, it.point), Math.max(was, it.point)});
                return it.views.size();
            case "widen":
                need(!it.views.isEmpty(), 6);
                it.views.remove(it.views.size() - 1);
                return it.views.size();
            case "checkpoint":
                return 0;
            default:
                throw new AssertionError(c.name());
        }
    }

    // ---- runs

    private int calledRun(Command c) {
        keepCheck();
        checkStarted = 0;
        started = 0;
        try {
            runMacro(c.a(), c.b(), 1);
            it.reason = 0;
            it.command = -1;
            return started;
        } catch (RunFailed e) {
            it.reason = e.reason;
            it.command = e.command;
            List<List<String>> stores = it.state.stores;
            it.state = checkState.copy();
            for (int i = 0; i < 5; i++) {
                if (!it.tracked[i]) {
                    it.state.stores.set(i, stores.get(i));
                }
            }
            it.point = checkPoint;
            it.views = copyViews(checkViews);
            it.pending.subList(checkSteps, it.pending.size()).clear();
            return checkStarted;
        }
    }

    private void keepCheck() {
        checkState = it.state.copy();
        checkPoint = it.point;
        checkViews = copyViews(it.views);
        checkSteps = it.pending.size();
    }

    private void runMacro(int macro, int times, int level) {
        for (int t = 0; t < times; t++) {
            for (int i = 0; i < it.macros.get(macro).size(); i++) {
                Command c = it.macros.get(macro).get(i);
                int where = macro * 100 + i;
                if (started == 24) {
                    throw new RunFailed(8, where);
                }
                started++;
                if (c.name().equals("run")) {
                    if (level == 5) {
                        throw new RunFailed(7, where);
                    }
                    runMacro(c.a(), c.b(), level + 1);
                } else if (c.name().equals("checkpoint")) {
                    keepCheck();
                    checkStarted = started;
                } else {
                    try {
                        execute(c);
                    } catch (Cannot e) {
                        throw new RunFailed(e.reason, where);
                    }
                }
            }
        }
    }

    // ---- the other calls

    private int other(String name, int[] a) {
        switch (name) {
            case "record":
                state(it.recording < 0);
                it.recording = a[0];
                it.recorded = new ArrayList<>();
                return 0;
            case "stop": {
                state(it.recording >= 0);
                it.macros.set(it.recording, List.copyOf(it.recorded));
                int size = it.recorded.size();
                it.recording = -1;
                it.recorded = null;
                return size;
            }
            case "open":
                state(!it.group);
                it.group = true;
                return 0;
            case "close":
                state(it.group);
                if (!it.pending.isEmpty()) {
                    makeChange(false, false);
                }
                it.group = false;
                return it.current;
            case "pass":
                it.ticks += a[0];
                return 0;
            case "track":
                state(!it.tracked[a[0]]);
                it.tracked[a[0]] = true;
                step(Step.store(a[0], it.state.stores.get(a[0])));
                if (!it.group) {
                    makeChange(false, false);
                }
                return 0;
            case "listen":
                it.listeners[a[0]] = new int[] {a[1], a[2], a[3]};
                return 0;
            case "unlisten": {
                boolean was = it.listeners[a[0]] != null;
                it.listeners[a[0]] = null;
                return was ? 1 : 0;
            }
            default:
                return otherOnTree(name, a);
        }
    }

    private int otherOnTree(String name, int[] a) {
        switch (name) {
            case "undo":
                state(!it.group && it.current != 0);
                go(it.nodes.get(it.current).parent);
                return it.current;
            case "redo": {
                List<Integer> c = children(it.current);
                state(!it.group && !c.isEmpty());
                go(Collections.max(c));
                return it.current;
            }
            case "walk": {
                state(!it.group);
                List<Integer> here = path(it.current);
                List<Integer> there = path(a[0]);
                int common = 0;
                while (common < Math.min(here.size(), there.size()) && here.get(common).equals(there.get(common))) {
                    common++;
                }
                go(a[0]);
                return here.size() + there.size() - 2 * common;
            }
            case "undoIn":
                return undoIn(a[0], a[1]);
            case "setBookmark": {
                int was = it.bookmarks[a[0]];
                it.bookmarks[a[0]] = it.current;
                return was;
            }
            case "clearBookmark": {
                int was = it.bookmarks[a[0]];
                it.bookmarks[a[0]] = -1;
                return was;
            }
            case "setBudget":
                it.budget = a[0];
                return merge();
            default:
                throw new AssertionError(name);
        }
    }

    /** From the root to a node. */
    List<Integer> path(int node) {
        List<Integer> p = new ArrayList<>();
        for (int n = node; n != -1; n = it.nodes.get(n).parent) {
            p.add(0, n);
        }
        return p;
    }

    State replay(int node) {
        State s = new State();
        for (int n : path(node)) {
            for (Step step : it.nodes.get(n).steps) {
                s.apply(step);
            }
        }
        return s;
    }

    private void go(int node) {
        State s = replay(node);
        for (int i = 0; i < 5; i++) {
            if (!it.tracked[i]) {
                s.stores.set(i, it.state.stores.get(i));
            }
        }
        it.state = s;
        it.current = node;
        it.point = it.nodes.get(node).point;
        it.views.clear();
    }

    // ---- undo within a region

    private static final class Trace {
        int a;
        int b;
        boolean covered;
    }

    private static Trace trace(Step s) {
        Trace t = new Trace();
        t.a = s.at();
        t.b = s.kind() == 'd' ? s.at() : s.at() + s.text().length();
        return t;
    }

    /** Returns true if the trace is moved back. */
    private static boolean pass(Trace t, Step s) {
        int q = s.at();
        int k = s.text().length();
        int a = t.a;
        int b = t.b;
        if (s.kind() == 'i') {
            if (q < a || q == a && a < b) {
                t.a += k;
                t.b += k;
            } else if (q > a && q < b || q == a && a == b) {
                t.covered = true;
            }
        } else if (s.kind() == 'd') {
            if (!(q + k > a)) {
                t.a -= k;
                t.b -= k;
                return true;
            } else if (!(q >= b)) {
                t.covered = true;
            }
        } else if (s.kind() == 'r') {
            t.covered |= !(q < a) && q < b;
        }
        return false;
    }

    private int undoIn(int from, int to) {
        state(!it.group);
        List<Integer> p = path(it.current);
        for (int i = p.size() - 1; i > 0; i--) {
            Node n = it.nodes.get(p.get(i));
            List<Step> own = new ArrayList<>();
            for (Step s : n.steps) {
                if (s.isText()) {
                    own.add(s);
                }
            }
            if (n.region || own.isEmpty() || own.size() > 8) {
                continue;
            }
            List<Step> after = new ArrayList<>();
            for (int j = i + 1; j < p.size(); j++) {
                after.addAll(it.nodes.get(p.get(j)).steps);
            }
            boolean[][] back = new boolean[8][8];
            Trace[] traces = new Trace[own.size()];
            boolean covered = false;
            boolean meets = false;
            for (int j = 0; j < own.size(); j++) {
                traces[j] = trace(own.get(j));
                for (int k = j + 1; k < own.size(); k++) {
                    back[j][k] = pass(traces[j], own.get(k));
                }
                for (Step s : after) {
                    pass(traces[j], s);
                }
                covered |= traces[j].covered;
                meets |= traces[j].a <= to && traces[j].b >= from;
            }
            if (!covered && meets) {
                opposites(own, traces, back);
                makeChange(true, false);
                return it.current;
            }
        }
        throw new IllegalStateException();
    }

    private void opposites(List<Step> own, Trace[] traces, boolean[][] back) {
        for (int k = own.size() - 1; k >= 0; k--) {
            Step s = own.get(k);
            int at = traces[k].a;
            Step opposite = s.kind() == 'i' ? Step.delete(at, s.text())
                    : s.kind() == 'd' ? Step.insert(at, s.text()) : Step.replace(at, s.old(), s.text());
            step(opposite);
            state(it.state.text.length() <= 400);
            for (int j = 0; j < k; j++) {
                Trace t = traces[j];
                if (s.kind() == 'd' && t.a == t.b && t.a == at) {
                    if (back[j][k]) {
                        t.a += s.text().length();
                        t.b = t.a;
                    }
                } else {
                    pass(t, opposite);
                    if (t.covered) {
                        throw new AssertionError("an opposite covers a trace");
                    }
                }
            }
        }
    }

    @Override
    public String toString() {
        return it.state.text + " " + it.point + " " + Arrays.toString(it.state.marks);
    }
}
