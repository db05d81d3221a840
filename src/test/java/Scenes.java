import java.util.function.IntUnaryOperator;

/** Ways to make objects and to tell what they answer; the tests inherit them. */
abstract class Scenes {
    static final int NONE = BackgroundRebuild.NONE;
    static final int LEAST = Integer.MIN_VALUE;
    static final int GREATEST = Integer.MAX_VALUE;
    static final Class<IllegalArgumentException> ILLEGAL = IllegalArgumentException.class;
    static final Class<IllegalStateException> STATE = IllegalStateException.class;
    static final Class<IndexOutOfBoundsException> BOUNDS = IndexOutOfBoundsException.class;

    // ---- ways to make objects

    /** A tree in which no rebuild begins by itself before the depth is above 40. */
    static BackgroundRebuild quiet(int... keys) {
        BackgroundRebuild x = new BackgroundRebuild();
        x.set(0, 100);
        x.set(1, 40);
        for (int key : keys) {
            x.add(key);
        }
        return x;
    }

    /** 0 to some keys less 1, at most 120, in an order that keeps the tree low. */
    static BackgroundRebuild low(int keys) {
        BackgroundRebuild x = quiet();
        for (int i = 0; i < 120; i++) {
            if (i * 77 % 120 < keys) {
                x.add(i * 77 % 120);
            }
        }
        return x;
    }

    /** 0 to 119. */
    static BackgroundRebuild full() {
        return low(120);
    }

    static void type(BackgroundRebuild x, String text) {
        for (int i = 0; i < text.length(); i++) {
            x.append(text.charAt(i));
        }
    }

    static void idle(BackgroundRebuild x, int times) {
        for (int i = 0; i < times; i++) {
            x.idle();
        }
    }

    /** Removes the keys from one to another one, with the first, without the last. */
    static void removeKeys(BackgroundRebuild x, int from, int to) {
        for (int key = from; key < to; key++) {
            x.remove(key);
        }
    }

    // ---- what an object answers

    /** The answers for 0, 1 and so on. */
    static String answers(int count, IntUnaryOperator ask) {
        StringBuilder told = new StringBuilder();
        for (int i = 0; i < count; i++) {
            told.append(i == 0 ? "" : " ").append(ask.applyAsInt(i));
        }
        return told.toString();
    }

    /** The answers for 0, 1 and so on, up to the first NONE. */
    static String answersToNone(IntUnaryOperator ask) {
        StringBuilder told = new StringBuilder();
        int i = 0;
        for (int got = ask.applyAsInt(0); got != NONE; got = ask.applyAsInt(i)) {
            told.append(i == 0 ? "" : " ").append(got);
            i++;
        }
        return told.toString();
    }

    static String keysOf(BackgroundRebuild x, boolean second) {
        StringBuilder keys = new StringBuilder();
        int i = 0;
        for (int key = x.node(second, 0, 0); key != NONE; key = x.node(second, i, 0)) {
            keys.append(i == 0 ? "" : " ").append(key).append(x.node(second, i, 1) == 1 ? "*" : "");
            i++;
        }
        return keys.toString();
    }

    static String queueOf(BackgroundRebuild x) {
        return answersToNone(index -> x.queued(index));
    }

    static String pathOf(BackgroundRebuild x, int key) {
        return answersToNone(index -> x.path(key, index));
    }

    static String treeOf(BackgroundRebuild x, boolean second) {
        return answers(7, what -> x.tree(second, what));
    }

    static String rebuildOf(BackgroundRebuild x) {
        return answers(6, what -> x.rebuild(what));
    }

    static String countsOf(BackgroundRebuild x) {
        return answers(9, what -> x.count(what));
    }

    static String settingsOf(BackgroundRebuild x) {
        return answers(3, setting -> x.setting(setting));
    }
}
