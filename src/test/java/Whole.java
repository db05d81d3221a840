import java.util.function.Consumer;
import java.util.function.Function;
import java.util.function.Supplier;

/**
 * Tells all that can be known of objects that are made in the same way. Each
 * part is read off a new one, as an object is made for 512 calls only.
 */
final class Whole {
    private Whole() {
    }

    /** The state, the saved states, the snapshots and the buffer. */
    static String all(Supplier<BackgroundRebuild> made) {
        StringBuilder told = new StringBuilder(state(made));
        int saved = made.get().count(7);
        for (int undone = 1; undone <= saved; undone++) {
            int times = undone;
            told.append("\nundone ").append(times).append(' ').append(state(after(made, x -> undo(x, times))));
        }
        for (int slot = 0; slot < 2; slot++) {
            told.append("\nslot ").append(slot).append(' ').append(snapshot(made, slot));
        }
        return told.append("\nbuffer ").append(buffer(made)).toString();
    }

    /** The state alone. */
    static String state(Supplier<BackgroundRebuild> made) {
        return part(made, x -> nodes(x, false, 0)) + "|" + part(made, x -> nodes(x, false, 1))
                + "|" + part(made, x -> nodes(x, true, 0)) + "|" + part(made, x -> nodes(x, true, 1))
                + "|" + part(made, Whole::numbers) + "|" + part(made, Whole::course);
    }

    private static String nodes(BackgroundRebuild x, boolean second, int what) {
        return Scenes.answersToNone(node -> x.node(second, node, what));
    }

    static Supplier<BackgroundRebuild> after(Supplier<BackgroundRebuild> made, Consumer<BackgroundRebuild> call) {
        return () -> {
            BackgroundRebuild x = made.get();
            call.accept(x);
            return x;
        };
    }

    static void undo(BackgroundRebuild x, int times) {
        for (int i = 0; i < times; i++) {
            x.undo();
        }
    }

    private static String part(Supplier<BackgroundRebuild> made, Function<BackgroundRebuild, String> tell) {
        return tell.apply(made.get());
    }

    private static String numbers(BackgroundRebuild x) {
        return Scenes.rebuildOf(x) + "|" + Scenes.queueOf(x) + "|" + Scenes.settingsOf(x)
                + "|" + Scenes.answers(7, what -> x.count(what));
    }

    /** The tree when the rebuild is done: it shows the keys that were left in the list. */
    private static String course(BackgroundRebuild x) {
        int exchanges = x.count(5);
        x.set(2, 8);
        for (int i = 0; i < 20 && x.rebuild(0) != 0 && x.count(5) == exchanges; i++) {
            x.idle();
        }
        return nodes(x, false, 0) + " " + Scenes.treeOf(x, false);
    }

    private static String snapshot(Supplier<BackgroundRebuild> made, int slot) {
        try {
            made.get().goBack(slot);
        } catch (IllegalStateException e) {
            return "is empty";
        }
        return state(after(made, x -> x.goBack(slot)));
    }

    private static String buffer(Supplier<BackgroundRebuild> made) {
        BackgroundRebuild x = made.get();
        String told = x.count(7) + " " + x.count(8) + " " + x.firstError() + " ";
        try {
            return told + x.execute() + " " + nodes(x, false, 0);
        } catch (IllegalArgumentException e) {
            return told + "is not complete";
        }
    }
}
