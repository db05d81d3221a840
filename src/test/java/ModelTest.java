/** Runs of up to 512 calls, drawn by a fixed rule, on the program and on the model; their answers must be the same. */
public final class ModelTest {
    private static final int RUNS = 1500;
    private static final int CALLS = 512;
    private static final String[] NAMES = {"add", "remove", "idle", "begin", "abandon", "set", "append", "clearBuffer",
        "firstError", "execute", "undo", "keep", "goBack", "contains", "near", "rank", "keyAt", "node", "path", "tree",
        "rebuild", "queued", "count", "setting", "untilExchange", "longest", "leastSpeed", "meanDepth"};
    private static final int FIRST_QUERY = 13;
    private static final int[] WILD = {-1, 500, 120, 30, 8, 9, 499, 999, 1000, Integer.MAX_VALUE, Integer.MIN_VALUE,
        Integer.MAX_VALUE - 1, -500, 2, 3, 4, 5, 6, 7};

    private long seed;

    private ModelTest(long seed) {
        this.seed = seed * 2862933555777941757L + 3037000493L;
    }

    private int draw(int bound) {
        seed = seed * 6364136223846793005L + 1442695040888963407L;
        return (int) ((seed >>> 33) % bound);
    }

    public static void main(String[] args) {
        for (int run = 0; run < RUNS && !Checks.anyWrong(); run++) {
            new ModelTest(run).play(run);
        }
        Checks.end("ModelTest");
    }

    /** One run; its number settles how many keys, acts and texts it has. */
    private void play(int run) {
        BackgroundRebuild program = new BackgroundRebuild();
        Model model = new Model();
        int keys = new int[] {8, 40, 125, 200, 500}[run % 5];
        int style = run / 5 % 6;
        StringBuilder told = new StringBuilder();
        String due = "";
        for (int i = 0; i < CALLS && !Checks.anyWrong(); i++) {
            if (due.isEmpty() && draw(style == 4 ? 4 : 40) == 0) {
                due = drawText(keys);
            }
            int call = due.isEmpty() ? drawCall(style, i) : 6;
            int a = drawArgument(call, 0, keys, i);
            int b = drawArgument(call, 1, keys, i);
            int what = drawArgument(call, 2, keys, i);
            if (!due.isEmpty()) {
                a = due.charAt(0);
                due = due.substring(1);
            }
            told.append(' ').append(NAMES[call]).append('(').append(a).append(',').append(b).append(',').append(what).append(')');
            compare(run, told, answer(program, call, a, b, what), answerOfModel(model, call, a, b, what));
        }
    }

    private static void compare(int run, StringBuilder told, String got, String want) {
        if (got.equals(want)) {
            Checks.due("", got, want);
        } else {
            Checks.due("run " + run + ":" + told, got, want);
        }
    }

    private int drawCall(int style, int i) {
        boolean filling = style == 1 && i < 200 || style == 5 && i < 130;
        int pick = draw(100);
        if (filling) {
            return pick < 85 ? 0 : pick < 90 ? 5 : FIRST_QUERY + draw(15);
        }
        if (pick < 40) {
            return FIRST_QUERY + draw(15);
        }
        if (pick < 85) {
            int kind = draw(10);
            if (style == 2) {
                return kind < 5 ? 0 : kind < 9 ? 1 : 2;
            }
            return kind < 4 ? 0 : kind < 7 ? 1 : kind < 9 ? 2 : 3;
        }
        return 2 + draw(11);
    }

    private String drawText(int keys) {
        StringBuilder text = new StringBuilder();
        int acts = 1 + draw(draw(3) == 0 ? 14 : 4);
        for (int i = 0; i < acts; i++) {
            int kind = draw(6);
            text.append(i == 0 ? "" : ";").append(kind == 0 ? "." : kind < 4 ? "+" : "-");
            if (kind != 0) {
                text.append(draw(3) == 0 ? draw(10) : draw(keys));
            }
        }
        if (draw(4) == 0) {
            text.insert(draw(text.length() + 1), "0123456789;+-. /:z".charAt(draw(18)));
        }
        return text.toString();
    }

    private int drawArgument(int call, int place, int keys, int i) {
        if (draw(40) == 0) {
            return WILD[draw(WILD.length)];
        }
        boolean first = place == 0;
        switch (call) {
            case 0: return draw(3) == 0 ? i % keys : draw(keys);
            case 1: case 13: case 15: return draw(keys);
            case 5: return first ? draw(3) : drawValue();
            case 6: return "+-;.0123456789".charAt(draw(14));
            case 11: case 12: return draw(2);
            case 14: return first ? draw(keys) : draw(4);
            case 16: return draw(60);
            case 17: return first ? draw(2) : place == 1 ? draw(draw(2) == 0 ? 120 : 10) : draw(5);
            case 18: return first ? draw(keys) : draw(12);
            case 19: return first ? draw(2) : draw(7);
            case 20: return draw(6);
            case 21: return draw(draw(2) == 0 ? 32 : 4);
            case 22: return draw(9);
            case 23: return draw(3);
            case 26: return 1 + draw(draw(2) == 0 ? 160 : 12);
            default: return 1 + draw(8);
        }
    }

    private int drawValue() {
        return draw(2) == 0 ? 1 + draw(8) : draw(2) == 0 ? 3 + draw(38) : 10 + draw(91);
    }

    private static String answer(BackgroundRebuild x, int call, int a, int b, int what) {
        try {
            switch (call) {
                case 0: return "" + x.add(a);
                case 1: return "" + x.remove(a);
                case 2: return "" + x.idle();
                case 3: return "" + x.begin();
                case 4: return "" + x.abandon();
                case 5: return "" + x.set(a, b);
                case 6: return "" + x.append(a);
                case 7: return "" + x.clearBuffer();
                case 8: return "" + x.firstError();
                case 9: return "" + x.execute();
                case 10: return "" + x.undo();
                case 11: return "" + x.keep(a);
                case 12: return "" + x.goBack(a);
                case 13: return "" + (x.contains(a) ? 1 : 0);
                case 14: return "" + x.near(a, b);
                case 15: return "" + x.rank(a);
                case 16: return "" + x.keyAt(a);
                case 17: return "" + x.node(a == 1, b, what);
                case 18: return "" + x.path(a, b);
                case 19: return "" + x.tree(a == 1, b);
                case 20: return "" + x.rebuild(a);
                case 21: return "" + x.queued(a);
                case 22: return "" + x.count(a);
                case 23: return "" + x.setting(a);
                case 24: return "" + x.untilExchange(a);
                case 25: return "" + x.longest(a);
                case 26: return "" + x.leastSpeed(a);
                default: return "" + x.meanDepth();
            }
        } catch (RuntimeException e) {
            return e.getClass().getName();
        }
    }

    private static String answerOfModel(Model x, int call, int a, int b, int what) {
        try {
            switch (call) {
                case 0: return "" + x.add(a);
                case 1: return "" + x.remove(a);
                case 2: return "" + x.idle();
                case 3: return "" + x.begin();
                case 4: return "" + x.abandon();
                case 5: return "" + x.set(a, b);
                case 6: return "" + x.append(a);
                case 7: return "" + x.clearBuffer();
                case 8: return "" + x.firstError();
                case 9: return "" + x.execute();
                case 10: return "" + x.undo();
                case 11: return "" + x.keep(a);
                case 12: return "" + x.goBack(a);
                case 13: return "" + x.contains(a);
                case 14: return "" + x.near(a, b);
                case 15: return "" + x.rank(a);
                case 16: return "" + x.keyAt(a);
                case 17: return "" + x.node(a == 1, b, what);
                case 18: return "" + x.path(a, b);
                case 19: return "" + x.tree(a == 1, b);
                case 20: return "" + x.rebuild(a);
                case 21: return "" + x.queued(a);
                case 22: return "" + x.count(a);
                case 23: return "" + x.setting(a);
                case 24: return "" + x.untilExchange(a);
                case 25: return "" + x.longest(a);
                case 26: return "" + x.leastSpeed(a);
                default: return "" + x.meanDepth();
            }
        } catch (RuntimeException e) {
            return e.getClass().getName();
        }
    }
}
