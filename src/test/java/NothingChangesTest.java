import java.util.ArrayList;
import java.util.LinkedHashMap;
import java.util.List;
import java.util.Map;
import java.util.function.Consumer;
import java.util.function.Supplier;

/**
 * "Exceptions" and every throws clause: the last argument that is in range and
 * the first one that is not, the order of two exceptions that apply to one
 * call, and that a call that throws changes nothing, nor does a query.
 */
public final class NothingChangesTest extends Scenes {
    /** A call with one argument. */
    private interface Asked {
        void with(BackgroundRebuild x, int argument);
    }

    /** An argument of a call, its range, and what is thrown outside it. */
    private record Range(String name, int least, int greatest, Class<? extends RuntimeException> due, Asked call) {
    }

    private static final List<Range> ACTS = new ArrayList<>();
    private static final List<Range> QUERIES = new ArrayList<>();

    public static void main(String[] args) {
        rangesOfActs();
        rangesOfQueriesAboutTheTree();
        rangesOfQueriesAboutTheRebuild();
        Map<String, Supplier<BackgroundRebuild>> scenes = scenes();
        for (Map.Entry<String, Supplier<BackgroundRebuild>> scene : scenes.entrySet()) {
            String before = Whole.all(scene.getValue());
            tryRanges(scene.getKey(), ACTS, scene.getValue(), before);
            tryRanges(scene.getKey(), QUERIES, scene.getValue(), before);
            queriesChangeNothing(scene.getKey(), scene.getValue(), before);
            refusedStates(scene.getKey(), scene.getValue(), before);
        }
        twoThatApply();
        Checks.end("NothingChangesTest");
    }

    // ---- the ranges

    private static void act(String name, int least, int greatest, Asked call) {
        ACTS.add(new Range(name, least, greatest, ILLEGAL, call));
    }

    private static void query(String name, int least, int greatest, Asked call) {
        QUERIES.add(new Range(name, least, greatest, ILLEGAL, call));
    }

    private static void rangesOfActs() {
        act("add(key)", 0, 499, (x, key) -> x.add(key));
        act("remove(key)", 0, 499, (x, key) -> x.remove(key));
        ACTS.add(new Range("set(setting, a value of it)", 0, 2, BOUNDS, (x, setting) -> x.set(setting, setting == 2 ? 8 : 10)));
        act("set(0, value)", 10, 100, (x, value) -> x.set(0, value));
        act("set(1, value)", 3, 40, (x, value) -> x.set(1, value));
        act("set(2, value)", 1, 8, (x, value) -> x.set(2, value));
        act("append(code)", 33, 126, (x, code) -> x.append(code));
        act("keep(slot)", 0, 1, (x, slot) -> x.keep(slot));
        act("goBack(slot)", 0, 1, (x, slot) -> x.goBack(slot));
    }

    private static void rangesOfQueriesAboutTheTree() {
        query("contains(key)", 0, 499, (x, key) -> x.contains(key));
        for (int i = 0; i < 4; i++) {
            int what = i;
            query("near(key, " + what + ")", 0, 499, (x, key) -> x.near(key, what));
        }
        query("near(0, what)", 0, 3, (x, what) -> x.near(0, what));
        query("near(499, what)", 0, 3, (x, what) -> x.near(499, what));
        query("rank(key)", 0, 499, (x, key) -> x.rank(key));
        query("keyAt(rank)", 0, GREATEST, (x, rank) -> x.keyAt(rank));
        for (boolean second : new boolean[] {false, true}) {
            query("node(" + second + ", node, 0)", 0, GREATEST, (x, node) -> x.node(second, node, 0));
            query("node(" + second + ", node, 4)", 0, GREATEST, (x, node) -> x.node(second, node, 4));
            query("node(" + second + ", 0, what)", 0, 4, (x, what) -> x.node(second, 0, what));
            query("node(" + second + ", 120, what)", 0, 4, (x, what) -> x.node(second, 120, what));
            query("tree(" + second + ", what)", 0, 6, (x, what) -> x.tree(second, what));
        }
        query("path(key, 0)", 0, 499, (x, key) -> x.path(key, 0));
        query("path(key, far)", 0, 499, (x, key) -> x.path(key, GREATEST));
        query("path(0, index)", 0, GREATEST, (x, index) -> x.path(0, index));
        query("path(499, index)", 0, GREATEST, (x, index) -> x.path(499, index));
    }

    private static void rangesOfQueriesAboutTheRebuild() {
        query("rebuild(what)", 0, 5, (x, what) -> x.rebuild(what));
        query("queued(index)", 0, GREATEST, (x, index) -> x.queued(index));
        query("count(what)", 0, 8, (x, what) -> x.count(what));
        QUERIES.add(new Range("setting(setting)", 0, 2, BOUNDS, (x, setting) -> x.setting(setting)));
        query("untilExchange(speed)", 1, 8, (x, speed) -> x.untilExchange(speed));
        query("longest(speed)", 1, 8, (x, speed) -> x.longest(speed));
        query("leastSpeed(calls)", 1, GREATEST, (x, calls) -> x.leastSpeed(calls));
    }

    // ---- the states in which each call is tried

    private static Map<String, Supplier<BackgroundRebuild>> scenes() {
        Map<String, Supplier<BackgroundRebuild>> scenes = new LinkedHashMap<>();
        scenes.put("new", BackgroundRebuild::new);
        scenes.put("empty rebuild", () -> {
            BackgroundRebuild x = new BackgroundRebuild();
            x.begin();
            return x;
        });
        scenes.put("busy", NothingChangesTest::busy);
        scenes.put("all is full", NothingChangesTest::allIsFull);
        scenes.put("complete text", () -> {
            BackgroundRebuild x = quiet(7, 3, 9);
            x.remove(3);
            type(x, "+3;-9;.");
            return x;
        });
        return scenes;
    }

    /** In the midst of a rebuild; both snapshots, some saved states, a text that is not complete. */
    private static BackgroundRebuild busy() {
        BackgroundRebuild x = low(20);
        x.keep(0);
        x.remove(5);
        x.begin();
        x.add(300);
        x.keep(1);
        x.remove(6);
        x.add(5);
        x.undo();
        x.undo();
        x.remove(7);
        type(x, "+30;-");
        return x;
    }

    /** 120 nodes, 30 queued acts, 6 saved states, 60 characters; one slot is empty. */
    private static BackgroundRebuild allIsFull() {
        BackgroundRebuild x = full();
        x.keep(1);
        x.set(2, 1);
        x.begin();
        removeKeys(x, 0, 30);
        type(x, "+100;+120;-100;+140;-120;+160;-140;+180;-160;+199;-180;+20;.");
        return x;
    }

    // ---- the ranges are tried

    private static void tryRanges(String scene, List<Range> ranges, Supplier<BackgroundRebuild> made, String before) {
        for (Range range : ranges) {
            lastInRange(scene, range, made);
            firstOutOfRange(scene, range, made, before);
        }
    }

    private static void lastInRange(String scene, Range range, Supplier<BackgroundRebuild> made) {
        for (int argument : new int[] {range.least, range.greatest}) {
            Class<?> thrown = null;
            try {
                range.call.with(made.get(), argument);
            } catch (RuntimeException e) {
                thrown = e.getClass();
            }
            boolean allowed = thrown == null || thrown == STATE;
            Checks.due(scene + ": " + range.name + " with " + argument + " throws " + thrown, allowed, true);
        }
    }

    private static void firstOutOfRange(String scene, Range range, Supplier<BackgroundRebuild> made, String before) {
        List<Integer> wrong = new ArrayList<>(List.of(range.least - 1, range.least - 256, LEAST));
        if (range.greatest < GREATEST) {
            wrong.addAll(List.of(range.greatest + 1, range.greatest + 256, GREATEST));
        }
        Supplier<BackgroundRebuild> refused = Whole.after(made, x -> {
            for (int argument : wrong) {
                Checks.throwsJust(scene + ": " + range.name + " with " + argument, range.due, () -> range.call.with(x, argument));
            }
        });
        Checks.due(scene + ": " + range.name + " changes nothing", Whole.all(refused), before);
    }

    /** "queries about the tree; nothing changes" and "queries about the rebuild; nothing changes" */
    private static void queriesChangeNothing(String scene, Supplier<BackgroundRebuild> made, String before) {
        Supplier<BackgroundRebuild> asked = Whole.after(made, x -> {
            for (Range range : QUERIES) {
                range.call.with(x, range.least);
                range.call.with(x, Math.min(range.greatest, range.least + 3));
            }
            x.meanDepth();
            x.firstError();
        });
        Checks.due(scene + ": queries change nothing", Whole.all(asked), before);
    }

    // ---- what a state does not allow

    private static void refused(String what, Supplier<BackgroundRebuild> made, String before,
            Class<? extends RuntimeException> due, Consumer<BackgroundRebuild> call) {
        Supplier<BackgroundRebuild> refused = Whole.after(made, x -> Checks.throwsJust(what, due, () -> call.accept(x)));
        Checks.due(what + " changes nothing", Whole.all(refused), before);
    }

    private static void refusedStates(String scene, Supplier<BackgroundRebuild> made, String before) {
        boolean isNew = scene.equals("new");
        boolean isFull = scene.equals("all is full");
        boolean running = !isNew && !scene.equals("complete text");
        if (running) {
            refused(scene + ": begin()", made, before, STATE, x -> x.begin());
        } else {
            refused(scene + ": abandon()", made, before, STATE, x -> x.abandon());
        }
        if (!scene.equals("complete text") && !isFull) {
            refused(scene + ": execute()", made, before, ILLEGAL, x -> x.execute());
        }
        if (!scene.equals("busy")) {
            refused(scene + ": goBack(0)", made, before, STATE, x -> x.goBack(0));
        }
        if (isNew) {
            refused(scene + ": undo()", made, before, STATE, x -> x.undo());
        }
        if (isFull) {
            refused(scene + ": add(120)", made, before, STATE, x -> x.add(120));
            refused(scene + ": add(499)", made, before, STATE, x -> x.add(499));
            refused(scene + ": append(46)", made, before, STATE, x -> x.append(46));
        } else if (!scene.equals("busy")) {
            refused(scene + ": goBack(1)", made, before, STATE, x -> x.goBack(1));
        }
    }

    /** "If more than one exception applies to a call, the one that its throws clause lists first is thrown." */
    private static void twoThatApply() {
        String full = Whole.all(NothingChangesTest::allIsFull);
        for (int key : new int[] {-1, 500}) {
            refused("add(" + key + ") to a full tree", NothingChangesTest::allIsFull, full, ILLEGAL, x -> x.add(key));
        }
        for (int code : new int[] {32, 127}) {
            refused("append(" + code + ") to a full buffer", NothingChangesTest::allIsFull, full, ILLEGAL, x -> x.append(code));
        }
        String empty = Whole.all(BackgroundRebuild::new);
        for (int slot : new int[] {-1, 2}) {
            refused("goBack(" + slot + ") with empty slots", BackgroundRebuild::new, empty, ILLEGAL, x -> x.goBack(slot));
        }
        for (int setting : new int[] {-1, 3, LEAST, GREATEST}) {
            for (int value : new int[] {0, 101, LEAST, GREATEST}) {
                refused("set(" + setting + ", " + value + ")", BackgroundRebuild::new, empty, BOUNDS, x -> x.set(setting, value));
            }
        }
        refused("near(-1, 4)", BackgroundRebuild::new, empty, ILLEGAL, x -> x.near(-1, 4));
        refused("node(false, -1, 5)", BackgroundRebuild::new, empty, ILLEGAL, x -> x.node(false, -1, 5));
        refused("path(500, -1)", BackgroundRebuild::new, empty, ILLEGAL, x -> x.path(500, -1));
    }
}
