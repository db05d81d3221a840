import java.util.LinkedHashMap;
import java.util.Map;
import java.util.function.Consumer;
import java.util.function.Supplier;

/** "Undo and snapshots" and the promises 12 to 14 at their boundaries: a test for each sentence that names one. */
public final class UndoTest extends Scenes {
    public static void main(String[] args) {
        nothingIsSavedAtFirst();
        undoableCallsSaveOneState();
        callsWithoutEffectSaveToo();
        otherCallsSaveNothing();
        callsThatThrowSaveNothing();
        sixStates();
        theOldestIsDropped();
        undoIsNotUndoable();
        undoRestoresTheWholeState();
        theBufferIsNoPartOfTheState();
        emptySlots();
        bothSlots();
        keepReplaces();
        keysOfKeep();
        goBackRestoresTheWholeState();
        snapshotsStayInTheirSlots();
        snapshotsAreNotUndone();
        goBackIsUndoable();
        Checks.end("UndoTest");
    }

    /** A rebuild with copied keys, queued acts, marked nodes, and settings and counts of its own. */
    private static BackgroundRebuild busy() {
        BackgroundRebuild x = low(20);
        x.remove(3);
        x.begin();
        x.abandon();
        x.set(2, 8);
        x.begin();
        idle(x, 3);
        x.set(2, 3);
        x.begin();
        x.remove(5);
        x.add(300);
        x.remove(300);
        x.add(3);
        return x;
    }

    /** The calls that are marked "Undoable". */
    private static Map<String, Consumer<BackgroundRebuild>> undoable() {
        Map<String, Consumer<BackgroundRebuild>> calls = new LinkedHashMap<>();
        calls.put("add(301)", x -> x.add(301));
        calls.put("remove(7)", x -> x.remove(7));
        calls.put("idle()", x -> x.idle());
        calls.put("abandon()", x -> x.abandon());
        calls.put("set(0, 10)", x -> x.set(0, 10));
        calls.put("execute()", x -> x.execute());
        calls.put("goBack(0)", x -> x.goBack(0));
        calls.put("begin()", x -> x.begin());
        return calls;
    }

    /** What each of them needs ahead of it: a snapshot of another state, a text, and no rebuild for begin(). */
    private static Supplier<BackgroundRebuild> readyFor(String call) {
        return () -> {
            BackgroundRebuild x = new BackgroundRebuild();
            x.add(400);
            x.keep(0);
            x.undo();
            type(x, "+5;+2;+8;+1;+3;+7;+9;+6;-3;-7");
            x.execute();
            x.begin();
            if (call.equals("begin()")) {
                x.abandon();
            } else {
                type(x, "-2;+200");
                x.execute();
            }
            type(x, "+9;-8;.;+302");
            return x;
        };
    }

    // ---- saved states

    /** "Throws IllegalStateException if no state is saved" */
    private static void nothingIsSavedAtFirst() {
        BackgroundRebuild x = new BackgroundRebuild();
        Checks.due("no state", x.count(7), 0);
        Checks.throwsJust("none is saved", STATE, () -> x.undo());
        x.idle();
        Checks.due("one is", x.count(7) + " " + x.undo(), "1 0");
        Checks.throwsJust("none is left", STATE, () -> x.undo());
    }

    /** "Each method that is marked "Undoable" saves the state from before the call" */
    private static void undoableCallsSaveOneState() {
        for (Map.Entry<String, Consumer<BackgroundRebuild>> call : undoable().entrySet()) {
            BackgroundRebuild x = readyFor(call.getKey()).get();
            Checks.due("before " + call.getKey(), x.count(7), 3);
            call.getValue().accept(x);
            Checks.due("behind " + call.getKey(), x.count(7), 4);
        }
    }

    /** "even if nothing changes" */
    private static void callsWithoutEffectSaveToo() {
        BackgroundRebuild x = new BackgroundRebuild();
        x.keep(0);
        x.goBack(0);
        Checks.due("goBack() to the same state", x.count(7), 1);
        x.set(1, 10);
        Checks.due("set() to the same value", x.count(7), 2);
        x.idle();
        Checks.due("idle() without a rebuild", x.count(7), 3);
        x.remove(5);
        Checks.due("remove() of an absent key", x.count(7), 4);
        x.add(5);
        x.add(5);
        Checks.due("add() of a present key", x.count(7), 6);
        BackgroundRebuild y = new BackgroundRebuild();
        type(y, "-3");
        y.execute();
        y.begin();
        Checks.due("execute() of one act, begin() of an empty list", y.count(7), 2);
    }

    /** The methods that are not marked "Undoable" save nothing. */
    private static void otherCallsSaveNothing() {
        BackgroundRebuild x = new BackgroundRebuild();
        type(x, "+5;x");
        x.firstError();
        x.clearBuffer();
        x.keep(0);
        x.keep(1);
        x.keep(0);
        x.contains(5);
        x.meanDepth();
        x.leastSpeed(5);
        x.longest(5);
        Checks.due("nothing", x.count(7), 0);
    }

    /** "if it does not throw an exception" */
    private static void callsThatThrowSaveNothing() {
        BackgroundRebuild x = full();
        Whole.undo(x, 1);
        Checks.throwsJust("add()", ILLEGAL, () -> x.add(500));
        Checks.throwsJust("remove()", ILLEGAL, () -> x.remove(500));
        Checks.throwsJust("abandon()", STATE, () -> x.abandon());
        Checks.throwsJust("set()", BOUNDS, () -> x.set(3, 8));
        Checks.throwsJust("set()", ILLEGAL, () -> x.set(2, 9));
        Checks.throwsJust("execute()", ILLEGAL, () -> x.execute());
        Checks.throwsJust("goBack()", ILLEGAL, () -> x.goBack(2));
        Checks.throwsJust("goBack()", STATE, () -> x.goBack(0));
        Checks.due("five states", x.count(7), 5);
        x.begin();
        Checks.throwsJust("begin()", STATE, () -> x.begin());
        Checks.due("six states", x.count(7) + " " + x.undo() + " " + x.rebuild(0), "6 5 0");
    }

    /** "At most 6 states are saved" */
    private static void sixStates() {
        BackgroundRebuild x = new BackgroundRebuild();
        for (int i = 1; i <= 6; i++) {
            x.add(i);
            Checks.due("saved states", x.count(7), i);
        }
        for (int left = 5; left >= 0; left--) {
            Checks.due("left", x.undo() + " " + x.tree(false, 1), left + " " + left);
        }
        Checks.throwsJust("none is left", STATE, () -> x.undo());
        Supplier<BackgroundRebuild> undone = Whole.after(UndoTest::sixKeys, y -> Whole.undo(y, 6));
        Checks.due("the new object", Whole.all(undone), Whole.all(BackgroundRebuild::new));
    }

    private static BackgroundRebuild sixKeys() {
        BackgroundRebuild x = new BackgroundRebuild();
        for (int key = 1; key <= 6; key++) {
            x.add(key);
        }
        return x;
    }

    /** "when one more is saved, the oldest one is dropped" */
    private static void theOldestIsDropped() {
        for (int calls = 7; calls <= 20; calls++) {
            BackgroundRebuild x = new BackgroundRebuild();
            for (int i = 1; i <= calls; i++) {
                x.add(i % 2 == 0 ? i : 499 - i);
            }
            Checks.due("six of " + calls, x.count(7), 6);
            for (int left = 5; left >= 0; left--) {
                Checks.due("left of " + calls, x.undo() + " " + x.tree(false, 1), left + " " + (calls - 6 + left));
            }
            Checks.throwsJust("the dropped one", STATE, () -> x.undo());
        }
    }

    /** undo() "Restores the state that was saved last, and removes it": a state that is undone does not come back. */
    private static void undoIsNotUndoable() {
        BackgroundRebuild x = quiet(1, 2, 3);
        x.undo();
        x.add(4);
        x.undo();
        x.undo();
        Checks.due("the states before it", keysOf(x, false) + "|" + x.count(7), "1|3");
        x.add(7);
        x.add(8);
        x.undo();
        Checks.due("saved again in the same place", keysOf(x, false) + "|" + x.count(7), "1 7|4");
    }

    /** "The state consists of everything except the buffer, the saved states and the snapshots." */
    private static void undoRestoresTheWholeState() {
        for (Map.Entry<String, Consumer<BackgroundRebuild>> call : undoable().entrySet()) {
            Supplier<BackgroundRebuild> made = readyFor(call.getKey());
            Supplier<BackgroundRebuild> called = Whole.after(made, call.getValue());
            String before = Whole.state(made);
            Checks.due(call.getKey() + " changes the state", Whole.state(called).equals(before), false);
            Checks.due(call.getKey() + " is undone", Whole.state(Whole.after(called, x -> x.undo())), before);
        }
    }

    /** "everything except the buffer" */
    private static void theBufferIsNoPartOfTheState() {
        BackgroundRebuild x = new BackgroundRebuild();
        type(x, "+5");
        x.idle();
        x.keep(0);
        type(x, ";+6");
        x.undo();
        Checks.due("undo()", x.count(8), 5);
        x.goBack(0);
        Checks.due("goBack()", x.count(8) + " " + x.execute() + " " + keysOf(x, false), "5 2 5 6");
    }

    // ---- snapshots

    /** "There are two snapshot slots, which are empty at first." */
    private static void emptySlots() {
        for (int i = 0; i < 2; i++) {
            int slot = i;
            BackgroundRebuild x = quiet(5);
            Checks.throwsJust("slot " + slot, STATE, () -> x.goBack(slot));
            x.keep(1 - slot);
            Checks.throwsJust("slot " + slot + ", the other one is not", STATE, () -> x.goBack(slot));
            x.goBack(1 - slot);
            x.undo();
            Checks.throwsJust("slot " + slot + " still", STATE, () -> x.goBack(slot));
        }
    }

    /** "0 or 1" */
    private static void bothSlots() {
        BackgroundRebuild x = new BackgroundRebuild();
        Checks.due("an empty tree in slot 0", x.keep(0), 0);
        x.add(5);
        Checks.due("one key in slot 1", x.keep(1), 1);
        x.add(6);
        Checks.due("slot 0", x.goBack(0) + " " + keysOf(x, false), "0 ");
        Checks.due("slot 1", x.goBack(1) + " " + keysOf(x, false), "1 5");
        Checks.throwsJust("slot -1", ILLEGAL, () -> x.keep(-1));
        Checks.throwsJust("slot 2", ILLEGAL, () -> x.keep(2));
        Checks.throwsJust("slot -1", ILLEGAL, () -> x.goBack(-1));
        Checks.throwsJust("slot 2", ILLEGAL, () -> x.goBack(2));
    }

    /** "which replaces the one in the slot" */
    private static void keepReplaces() {
        BackgroundRebuild x = quiet(1, 2, 3);
        x.keep(0);
        x.keep(1);
        x.remove(3);
        x.set(2, 7);
        x.keep(0);
        x.add(9);
        Checks.due("the new one", x.goBack(0) + " " + keysOf(x, false) + " " + x.setting(2), "2 1 2 3* 7");
        Checks.due("the other slot", x.goBack(1) + " " + keysOf(x, false) + " " + x.setting(2), "3 1 2 3 2");
    }

    /** "Returns the number of present keys." */
    private static void keysOfKeep() {
        BackgroundRebuild x = full();
        Checks.due("120 present keys", x.keep(0), 120);
        x.remove(7);
        Checks.due("a marked one is none", x.keep(1), 119);
        Checks.due("goBack()", x.goBack(0) + " " + x.goBack(1), "120 119");
        BackgroundRebuild y = quiet(5);
        y.remove(5);
        Checks.due("only marked nodes", y.keep(0) + " " + y.goBack(0) + " " + y.tree(false, 0), "0 0 1");
    }

    /** goBack() "Restores a snapshot", whatever has been done since. */
    private static void goBackRestoresTheWholeState() {
        for (int i = 0; i < 2; i++) {
            int slot = i;
            Supplier<BackgroundRebuild> later = Whole.after(UndoTest::busy, x -> {
                x.keep(slot);
                x.set(0, 77);
                x.set(1, 20);
                x.set(2, 8);
                x.add(444);
                idle(x, 4);
                x.begin();
                x.remove(8);
                x.abandon();
            });
            String kept = Whole.state(UndoTest::busy);
            Checks.due("another state", Whole.state(later).equals(kept), false);
            Checks.due("the kept one", Whole.state(Whole.after(later, x -> x.goBack(slot))), kept);
        }
    }

    /** "which stays in its slot" */
    private static void snapshotsStayInTheirSlots() {
        String kept = Whole.state(UndoTest::busy);
        Supplier<BackgroundRebuild> twice = Whole.after(UndoTest::busy, x -> {
            x.keep(1);
            x.goBack(1);
            x.remove(8);
            x.set(2, 8);
            idle(x, 3);
            x.goBack(1);
            x.add(9);
            x.goBack(1);
        });
        Checks.due("a third time", Whole.state(twice), kept);
    }

    /** "everything except ... the snapshots": undo() leaves them as they are. */
    private static void snapshotsAreNotUndone() {
        BackgroundRebuild x = quiet(1);
        x.add(2);
        x.keep(0);
        x.undo();
        Checks.due("undone", keysOf(x, false), "1");
        Checks.due("still kept", x.goBack(0) + " " + keysOf(x, false), "2 1 2");
        x.add(3);
        x.keep(0);
        x.undo();
        x.undo();
        Checks.due("replaced all the same", keysOf(x, false) + "|" + x.goBack(0) + " " + keysOf(x, false), "1|3 1 2 3");
    }

    /** goBack() is "Undoable."; the saved states are no part of what it restores. */
    private static void goBackIsUndoable() {
        BackgroundRebuild x = new BackgroundRebuild();
        x.keep(0);
        x.add(1);
        x.add(2);
        x.goBack(0);
        Checks.due("saved states", x.count(7) + " " + x.count(3), "3 0");
        Checks.due("undone", x.undo() + " " + keysOf(x, false) + " " + x.count(3), "2 1 2 2");
        Checks.due("the one before it", x.undo() + " " + keysOf(x, false), "1 1");
    }
}
