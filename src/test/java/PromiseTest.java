import java.util.function.IntConsumer;

/** The promises of ../shared/DOC.md, one method each: ordinary inputs, the named edges, and wrong inputs. */
public final class PromiseTest extends Scenes {
    private static final int[] WRONG_SPEEDS = {0, 9, -1, LEAST, GREATEST};
    private static final int[] WRONG_KEYS = {-1, 500, LEAST, GREATEST};

    public static void main(String[] args) {
        promise1NewObject();
        promise2Add();
        promise2FullTree();
        promise3Remove();
        promise4Idle();
        promise5Begin();
        promise6Abandon();
        promise7Set();
        promise8Append();
        promise9ClearBuffer();
        promise10FirstError();
        promise11Execute();
        promise11FullTree();
        promise12Undo();
        promise13Keep();
        promise14GoBack();
        promise15Contains();
        promise16Near();
        promise17Rank();
        promise18KeyAt();
        promise19Node();
        promise20Path();
        promise21Tree();
        promise22Rebuild();
        promise23Queued();
        promise24Count();
        promise25Setting();
        promise26UntilExchange();
        promise27Longest();
        promise28LeastSpeed();
        promise29MeanDepth();
        termsThresholds();
        termsOrderOfParts();
        termsQueueOverflow();
        termsMarkedInSecondTree();
        Checks.end("PromiseTest");
    }

    /** All that a throwing call must leave as it is. */
    private static String all(BackgroundRebuild x) {
        // The nodes of a large tree would take more calls than an object is made for.
        boolean small = x.tree(false, 0) < 20;
        StringBuilder text = new StringBuilder(small ? keysOf(x, false) + "|" + keysOf(x, true) + "|" + queueOf(x) : treeOf(x, false));
        for (int i = 0; i < 9; i++) {
            text.append(' ').append(x.count(i));
        }
        for (int i = 0; i < 6; i++) {
            text.append(' ').append(x.rebuild(i));
        }
        for (int i = 0; i < 3; i++) {
            text.append(' ').append(x.setting(i));
        }
        return text.append(' ').append(x.firstError()).toString();
    }

    private static void refused(String what, BackgroundRebuild x, Class<? extends RuntimeException> want, Runnable call) {
        String before = all(x);
        Checks.throwsJust(what, want, call);
        Checks.due(what + " changes nothing", all(x), before);
    }

    /** Calls with each of some wrong arguments; looks at the state once for all of them. */
    private static void refusesEach(String what, BackgroundRebuild x, Class<? extends RuntimeException> want, IntConsumer call,
            int... wrong) {
        String before = all(x);
        for (int argument : wrong) {
            Checks.throwsJust(what + " " + argument, want, () -> call.accept(argument));
        }
        Checks.due(what + " changes nothing", all(x), before);
    }

    // ---- the promises

    private static void promise1NewObject() {
        BackgroundRebuild x = new BackgroundRebuild();
        Checks.due("1 state", all(x), "|| 0 0 0 0 0 0 0 0 0 0 0 0 0 -1 0 50 10 2 0");
        Checks.due("1 NONE", BackgroundRebuild.NONE, -1);
        for (int what = 0; what < 7; what++) {
            Checks.due("1 tree", x.tree(false, what), 0);
            Checks.due("1 second tree", x.tree(true, what), 0);
        }
        Checks.throwsJust("1 no saved state", STATE, () -> x.undo());
        Checks.throwsJust("1 slot 0 is empty", STATE, () -> x.goBack(0));
        Checks.throwsJust("1 slot 1 is empty", STATE, () -> x.goBack(1));
    }

    private static void promise2Add() {
        BackgroundRebuild x = quiet();
        Checks.due("2 first key", x.add(0), 1);
        Checks.due("2 work of it", x.count(0), 0);
        Checks.due("2 last key", x.add(499), 1);
        Checks.due("2 work of it", x.count(0), 1);
        Checks.due("2 again", x.add(499), 0);
        Checks.due("2 work of it", x.count(0), 2);
        Checks.due("2 it counts as an act", x.count(3), 3);
        Checks.due("2 each is saved", x.count(7), 5);
        x.remove(0);
        Checks.due("2 a marked key", x.add(0), 1);
        Checks.due("2 its node is used again", keysOf(x, false), "0 499");
        BackgroundRebuild y = quiet(50, 20, 80, 10, 30, 70, 90, 25, 75);
        Checks.due("2 places", keysOf(y, false), "50 20 10 30 25 80 70 75 90");
        refusesEach("2 add", x, ILLEGAL, key -> x.add(key), WRONG_KEYS);
    }

    private static void promise2FullTree() {
        BackgroundRebuild x = full();
        Checks.due("2 nodes", x.tree(false, 0), 120);
        refused("2 add to a full tree", x, STATE, () -> x.add(120));
        refused("2 a wrong key comes first", x, ILLEGAL, () -> x.add(500));
        Checks.due("2 a key of a full tree", x.add(119), 0);
        x.remove(60);
        refused("2 a marked node takes room", x, STATE, () -> x.add(499));
        Checks.due("2 a marked key of a full tree", x.add(60), 1);
        x.remove(60);
        x.begin();
        x.set(2, 8);
        for (int i = 0; i < 15; i++) {
            x.idle();
        }
        Checks.due("2 the exchange makes room", x.add(499), 1);
    }

    private static void promise3Remove() {
        BackgroundRebuild x = quiet(50, 20, 80);
        Checks.due("3 present", x.remove(20), 1);
        Checks.due("3 work", x.count(0), 2);
        Checks.due("3 it is marked", keysOf(x, false), "50 20* 80");
        Checks.due("3 marked already", x.remove(20), 0);
        Checks.due("3 no such key", x.remove(30), 0);
        Checks.due("3 work", x.count(0), 2);
        Checks.due("3 still marked", keysOf(x, false), "50 20* 80");
        Checks.due("3 acts", x.count(3), 6);
        Checks.due("3 keys 0 and 499", x.remove(0) + x.remove(499), 0);
        Checks.due("3 saved states", x.count(7), 6);
        refusesEach("3 remove", x, ILLEGAL, key -> x.remove(key), WRONG_KEYS);
        BackgroundRebuild y = quiet(50, 20, 80);
        y.remove(80);
        y.add(10);
        Checks.due("3 marks stay with their nodes", keysOf(y, false), "50 20 10 80*");
        Checks.due("3 an empty tree", new BackgroundRebuild().remove(5), 0);
    }

    private static void promise4Idle() {
        BackgroundRebuild x = quiet(1, 2, 3, 4);
        Checks.due("4 no rebuild", x.idle(), 0);
        Checks.due("4 it is an act", x.count(3), 5);
        x.begin();
        Checks.due("4 two copies", x.idle(), 2);
        Checks.due("4 second tree", keysOf(x, true), "3 2");
        x.add(5);
        Checks.due("4 work of the add", x.count(0), 6);
        Checks.due("4 the queued act", x.idle(), 2);
        Checks.due("4 exchanged", keysOf(x, false), "3 2 1 4 5");
        x.undo();
        Checks.due("4 undone", keysOf(x, true), "3 2 1 4");
        x.set(1, 4);
        x.idle();
        Checks.due("4 depth 3", x.rebuild(0), 0);
        x.set(1, 3);
        x.add(6);
        Checks.due("4 depth 4 begins a rebuild", x.rebuild(0), 1);
    }

    private static void promise5Begin() {
        BackgroundRebuild x = quiet(9, 8, 7, 6, 5, 4, 3, 2, 1, 0);
        x.remove(0);
        int acts = x.count(3);
        Checks.due("5 keys of the list", x.begin(), 9);
        Checks.due("5 no act", x.count(3), acts);
        Checks.due("5 begun", x.count(4), 1);
        Checks.due("5 condition", x.rebuild(0), 1);
        refused("5 begin twice", x, STATE, () -> x.begin());
        StringBuilder order = new StringBuilder();
        x.set(2, 1);
        for (int i = 0; i < 9; i++) {
            order.append(x.rebuild(4)).append(' ');
            x.idle();
        }
        Checks.due("5 order", order.toString(), "5 3 2 1 4 8 7 6 9 ");
        BackgroundRebuild y = new BackgroundRebuild();
        Checks.due("5 an empty list", y.begin(), 0);
        Checks.due("5 nothing left", y.rebuild(0), 2);
        y.undo();
        Checks.due("5 undone", y.rebuild(0) + y.count(4), 0);
    }

    private static void promise6Abandon() {
        BackgroundRebuild x = quiet(1, 2, 3, 4, 5);
        refused("6 none is running", x, STATE, () -> x.abandon());
        x.begin();
        x.add(6);
        x.idle();
        int acts = x.count(3);
        Checks.due("6 second tree", keysOf(x, true), "3 2 1 5");
        Checks.due("6 copied", x.abandon(), 4);
        Checks.due("6 no act", x.count(3), acts);
        Checks.due("6 abandoned", x.count(6), 1);
        Checks.due("6 no exchange", x.count(5), 0);
        Checks.due("6 second tree is empty", keysOf(x, true) + queueOf(x), "");
        Checks.due("6 the tree stays", keysOf(x, false), "1 2 3 4 5 6");
        refused("6 twice", x, STATE, () -> x.abandon());
        Checks.due("6 saved", x.undo(), 5);
        Checks.due("6 undone", keysOf(x, true) + "|" + queueOf(x), "3 2 1 5|6");
        BackgroundRebuild y = quiet(1, 2, 3, 4);
        y.begin();
        y.set(1, 3);
        y.abandon();
        Checks.due("6 no rebuild begins by itself", y.rebuild(0), 0);
        y.idle();
        Checks.due("6 but in the next act", y.rebuild(0), 1);
    }

    private static void promise7Set() {
        BackgroundRebuild x = new BackgroundRebuild();
        int[] least = {10, 3, 1};
        int[] greatest = {100, 40, 8};
        int[] first = {50, 10, 2};
        for (int i = 0; i < 3; i++) {
            int setting = i;
            Checks.due("7 previous", x.set(i, least[i]), first[i]);
            Checks.due("7 previous", x.set(i, greatest[i]), least[i]);
            Checks.due("7 same again", x.set(i, greatest[i]), greatest[i]);
            refusesEach("7 setting " + i, x, ILLEGAL, value -> x.set(setting, value), least[i] - 1, greatest[i] + 1, LEAST, GREATEST);
            Checks.due("7 kept", x.setting(i), greatest[i]);
        }
        refusesEach("7 setting", x, BOUNDS, setting -> x.set(setting, 10), -1, 3, LEAST, GREATEST);
        refusesEach("7 both wrong", x, BOUNDS, setting -> x.set(setting, -1), -1, 3, LEAST, GREATEST);
        Checks.due("7 no act", x.count(3), 0);
        x.undo();
        x.undo();
        Checks.due("7 undone", x.setting(2), 1);
        BackgroundRebuild y = quiet(1, 2, 3, 4);
        y.set(1, 3);
        Checks.due("7 set begins no rebuild", y.rebuild(0), 0);
    }

    private static void promise8Append() {
        BackgroundRebuild x = new BackgroundRebuild();
        Checks.due("8 least", x.append(33), 1);
        Checks.due("8 greatest", x.append(126), 2);
        refusesEach("8 code", x, ILLEGAL, code -> x.append(code), 32, 127, 0, -1, 43 + 65536, LEAST, GREATEST);
        for (int i = 3; i <= 60; i++) {
            Checks.due("8 length", x.append(46), i);
        }
        refused("8 a full buffer", x, STATE, () -> x.append(46));
        refused("8 a wrong code comes first", x, ILLEGAL, () -> x.append(32));
        Checks.due("8 nothing is saved", x.count(7), 0);
    }

    private static void promise9ClearBuffer() {
        BackgroundRebuild x = new BackgroundRebuild();
        Checks.due("9 empty", x.clearBuffer(), 0);
        type(x, "+12;x");
        Checks.due("9 length", x.clearBuffer(), 5);
        Checks.due("9 cleared", x.count(8) + x.clearBuffer(), 0);
        Checks.due("9 nothing is saved", x.count(7), 0);
        type(x, ".");
        Checks.due("9 the old text is gone", x.execute(), 1);
    }

    private static void promise10FirstError() {
        String[] good = {"", "+", "-", ".", "+0", "+0;", "+9", "-10", "+49", "+50", "+499", "-499;+0;.", ".;.;", "-100;",
            ".;.;.;.;.;.;.;.;.;.;.;.;.;.;.;.;.;.;.;.;.;.;.;.;.;.;.;.;.;."};
        for (String text : good) {
            error(text, text.length());
        }
        error(";", 0);
        error("5", 0);
        error("x.", 0);
        error("+;", 1);
        error("+-", 1);
        error("+.", 1);
        error("-x", 1);
        error("+/", 1);
        error("+:", 1);
        error("+05", 2);
        error("+00", 2);
        error("-500", 3);
        error("+50;-999", 7);
        error("+4990", 4);
        error("+1000", 4);
        error("+500", 3);
        error("..", 1);
        error(".5", 1);
        error(".+5", 1);
        error("+5-6", 2);
        error("+5.", 2);
        error(".;;", 2);
        error(".;x;y", 2);
        error("+1/", 2);
        error("+1:", 2);
        BackgroundRebuild x = new BackgroundRebuild();
        type(x, "+100;+120;-100;+140;-120;+160;-140;+180;-160;+199;-180;+20;.");
        Checks.due("10 sixty characters", x.firstError(), 60);
        x.clearBuffer();
        type(x, ".;.;.;.;.;.;.;.;.;.;.;.;.;.;.;.;.;.;.;.;.;.;.;.;.;.;.;.;.;.;");
        Checks.due("10 a text may go on behind the sixtieth", x.firstError(), 60);
        Checks.throwsJust("10 but it is not complete", ILLEGAL, () -> x.execute());
        x.clearBuffer();
        type(x, "+5;+3;-5;.;+500");
        Checks.due("10 of the document's test", x.firstError(), 14);
        Checks.due("10 twice", x.firstError(), 14);
        Checks.due("10 nothing is saved or cleared", x.count(7) + x.count(8), 15);
    }

    private static void error(String text, int want) {
        BackgroundRebuild x = new BackgroundRebuild();
        type(x, text);
        Checks.due("10 first error of " + text, x.firstError(), want);
    }

    private static void promise11Execute() {
        for (String text : new String[] {"", "+", "-", "+5;", ";", "+5;;", "+05", "+500", "x", ".;", "+5;-", "+5;x;."}) {
            BackgroundRebuild wrong = quiet(5, 6);
            type(wrong, text);
            refused("11 text " + text, wrong, ILLEGAL, () -> wrong.execute());
            Checks.due("11 the buffer stays", wrong.clearBuffer(), text.length());
        }
        BackgroundRebuild x = quiet();
        type(x, "+5;+3;-5;.;+499;-0;+0;-49;+49");
        Checks.due("11 acts", x.execute(), 9);
        Checks.due("11 cleared", x.count(8), 0);
        Checks.due("11 tree", keysOf(x, false), "5* 3 0 499 49");
        Checks.due("11 nine acts", x.count(3), 9);
        Checks.due("11 one saved state", x.count(7), 3);
        refused("11 empty again", x, ILLEGAL, () -> x.execute());
        Checks.due("11 undone at once", x.undo(), 2);
        Checks.due("11 undone at once", keysOf(x, false) + x.count(3), "0");
        Checks.due("11 the buffer is not restored", x.count(8), 0);
        type(x, ".;.;.;.;.;.;.;.;.;.;.;.;.;.;.;.;.;.;.;.;.;.;.;.;.;.;.;.;.;.");
        Checks.due("11 thirty acts", x.execute(), 30);
        type(x, "+100;+120;-100;+140;-120;+160;-140;+180;-160;+199;-180;+20;.");
        Checks.due("11 sixty characters", x.count(8), 60);
        Checks.due("11 sixty characters", x.execute(), 13);
    }

    private static void promise11FullTree() {
        BackgroundRebuild x = full();
        x.remove(7);
        int acts = x.count(3);
        type(x, "-8;+8;+7;+120;-9;.");
        Checks.due("11 up to the one that throws", x.execute(), 3);
        Checks.due("11 acts", x.count(3), acts + 3);
        Checks.due("11 not the ones behind it", x.contains(9), true);
        Checks.due("11 cleared", x.count(8), 0);
        type(x, "-0;+0");
        Checks.due("11 a removal does not throw", x.execute(), 2);
        x.undo();
        type(x, "+120;.");
        Checks.due("11 none", x.execute(), 0);
        Checks.due("11 cleared", x.count(8), 0);
        Checks.due("11 saved though nothing changes", x.undo(), 5);
        x.undo();
        Checks.due("11 undone at once", x.contains(7), false);
        Checks.due("11 undone at once", x.count(3), acts);
    }

    private static void promise12Undo() {
        BackgroundRebuild x = new BackgroundRebuild();
        for (int i = 1; i <= 8; i++) {
            x.add(i);
        }
        type(x, "abc");
        Checks.due("12 saved", x.count(7), 6);
        for (int left = 5; left >= 0; left--) {
            Checks.due("12 left", x.undo(), left);
            Checks.due("12 keys", x.tree(false, 1), left + 2);
            Checks.due("12 acts", x.count(3), left + 2);
        }
        refused("12 none is left", x, STATE, () -> x.undo());
        Checks.due("12 the buffer stays", x.count(8), 3);
        x.add(300);
        x.undo();
        Checks.due("12 after more acts", keysOf(x, false), "1 2");
        x.keep(0);
        x.set(2, 5);
        x.begin();
        x.idle();
        x.undo();
        Checks.due("12 the rebuild", x.rebuild(0) + " " + x.rebuild(2) + " " + x.count(5), "1 0 0");
        x.undo();
        x.undo();
        Checks.due("12 settings and counts", x.setting(2) + " " + x.count(4), "2 0");
        x.add(9);
        x.undo();
        Checks.due("12 snapshots stay", x.goBack(0), 2);
    }

    private static void promise13Keep() {
        BackgroundRebuild x = quiet(5, 6, 7);
        x.remove(6);
        int savedStates = x.count(7);
        Checks.due("13 present keys", x.keep(0), 2);
        Checks.due("13 it is not saved", x.count(7), savedStates);
        x.add(8);
        Checks.due("13 the other slot", x.keep(1), 3);
        x.add(9);
        Checks.due("13 replaced", x.keep(0), 4);
        x.remove(5);
        Checks.due("13 slot 1", x.goBack(1), 3);
        Checks.due("13 slot 0", x.goBack(0), 4);
        Checks.due("13 whole state", keysOf(x, false), "5 6* 7 8 9");
        refusesEach("13 slot", x, ILLEGAL, slot -> x.keep(slot), -1, 2, LEAST, GREATEST);
    }

    private static void promise14GoBack() {
        BackgroundRebuild x = quiet(1, 2, 3, 4, 5);
        refused("14 an empty slot", x, STATE, () -> x.goBack(0));
        refusesEach("14 slot", x, ILLEGAL, slot -> x.goBack(slot), -1, 2, LEAST, GREATEST);
        x.begin();
        x.remove(5);
        x.add(6);
        x.keep(1);
        String kept = keysOf(x, true) + queueOf(x) + x.rebuild(1) + x.rebuild(2) + x.count(2);
        refused("14 the other slot is empty", x, STATE, () -> x.goBack(0));
        x.set(2, 8);
        x.idle();
        type(x, "ab");
        for (int i = 0; i < 2; i++) {
            x.add(400 + i);
            Checks.due("14 present keys", x.goBack(1), 5);
            Checks.due("14 rebuild", keysOf(x, true) + queueOf(x) + x.rebuild(1) + x.rebuild(2) + x.count(2), kept);
        }
        Checks.due("14 buffer and saved states stay", x.count(7) + x.count(8), 8);
        Checks.due("14 settings", x.setting(2), 2);
        x.undo();
        Checks.due("14 undone", x.contains(401), true);
    }

    private static void promise15Contains() {
        BackgroundRebuild x = quiet(0, 250, 499, 100);
        x.remove(250);
        Checks.due("15 present", x.contains(0) && x.contains(499) && x.contains(100), true);
        Checks.due("15 marked", x.contains(250), false);
        Checks.due("15 absent", x.contains(1) || x.contains(498), false);
        refusesEach("15 key", x, ILLEGAL, key -> x.contains(key), WRONG_KEYS);
        x.begin();
        x.remove(100);
        Checks.due("15 at once in the tree", x.contains(100), false);
    }

    private static void promise16Near() {
        BackgroundRebuild x = quiet(20, 10, 30, 0, 499);
        x.remove(20);
        int[][] due = {{0, 0, -1, 10}, {10, 10, 0, 30}, {10, 30, 10, 30}, {30, 30, 10, 499}, {499, 499, 30, -1}, {30, 499, 30, 499}};
        int[] keys = {0, 10, 20, 30, 499, 498};
        for (int i = 0; i < keys.length; i++) {
            for (int what = 0; what < 4; what++) {
                Checks.due("16 near " + keys[i] + " " + what, x.near(keys[i], what), due[i][what]);
            }
        }
        BackgroundRebuild y = new BackgroundRebuild();
        for (int what = 0; what < 4; what++) {
            Checks.due("16 none", y.near(250, what) + y.near(0, what) + y.near(499, what), -3);
        }
        y.add(7);
        Checks.due("16 only a root", y.near(7, 0) + " " + y.near(7, 1) + " " + y.near(7, 2) + " " + y.near(7, 3), "7 7 -1 -1");
        Checks.due("16 beside it", y.near(8, 0) + " " + y.near(8, 2) + " " + y.near(6, 1) + " " + y.near(6, 3), "7 7 7 7");
        Checks.due("16 on the other side", y.near(6, 0) + " " + y.near(6, 2) + " " + y.near(8, 1) + " " + y.near(8, 3), "-1 -1 -1 -1");
        refusesEach("16 key", x, ILLEGAL, key -> x.near(key, 0), WRONG_KEYS);
        refusesEach("16 what", x, ILLEGAL, what -> x.near(5, what), -1, 4, LEAST, GREATEST);
    }

    private static void promise17Rank() {
        BackgroundRebuild x = quiet(20, 10, 30, 0, 499);
        x.remove(20);
        Checks.due("17 a root", quiet(7, 3).rank(8), 2);
        Checks.due("17 ranks", x.rank(0) + " " + x.rank(1) + " " + x.rank(10) + " " + x.rank(20) + " " + x.rank(30)
                + " " + x.rank(31) + " " + x.rank(499), "0 1 1 2 2 3 3");
        refusesEach("17 key", x, ILLEGAL, key -> x.rank(key), WRONG_KEYS);
    }

    private static void promise18KeyAt() {
        BackgroundRebuild x = quiet(20, 10, 30, 0, 499);
        x.remove(20);
        Checks.due("18 keys", x.keyAt(0) + " " + x.keyAt(1) + " " + x.keyAt(2) + " " + x.keyAt(3) + " " + x.keyAt(4)
                + " " + x.keyAt(GREATEST), "0 10 30 499 -1 -1");
        refusesEach("18 rank", x, ILLEGAL, rank -> x.keyAt(rank), -1, LEAST);
        BackgroundRebuild y = new BackgroundRebuild();
        Checks.due("18 empty", y.keyAt(0), -1);
        y.add(0);
        Checks.due("18 one key", y.keyAt(0) + " " + y.keyAt(1), "0 -1");
        y.undo();
        Checks.due("18 empty again", y.keyAt(0), -1);
    }

    private static void promise19Node() {
        BackgroundRebuild x = quiet(50, 20, 80, 10, 30, 70, 25);
        x.remove(20);
        x.remove(25);
        int[][] due = {{50, 20, 10, 30, 25, 80, 70}, {0, 1, 0, 0, 1, 0, 0}, {1, 2, 3, 3, 4, 2, 3}, {7, 4, 1, 2, 1, 2, 1}, {5, 2, 1, 1, 0, 2, 1}};
        for (int what = 0; what < 5; what++) {
            for (int node = 0; node < 7; node++) {
                Checks.due("19 node " + node + " " + what, x.node(false, node, what), due[what][node]);
            }
            Checks.due("19 no such node", x.node(false, 7, what), -1);
            Checks.due("19 no such node", x.node(false, GREATEST, what), -1);
            Checks.due("19 no second tree", x.node(true, 0, what), -1);
        }
        x.begin();
        x.idle();
        Checks.due("19 second tree", keysOf(x, true), "50 30");
        Checks.due("19 second tree", x.node(true, 0, 3) + " " + x.node(true, 1, 2) + " " + x.node(true, 2, 0), "2 2 -1");
        refusesNodes(false);
        refusesNodes(true);
    }

    private static void refusesNodes(boolean second) {
        BackgroundRebuild x = quiet(2, 1, 3);
        x.begin();
        x.idle();
        refusesEach("19 node", x, ILLEGAL, node -> x.node(second, node, 0), -1, LEAST);
        refusesEach("19 what", x, ILLEGAL, what -> x.node(second, 0, what), -1, 5, LEAST, GREATEST);
        refused("19 what of no node", x, ILLEGAL, () -> x.node(second, 300, 5));
    }

    private static void promise20Path() {
        BackgroundRebuild x = quiet(50, 20, 80, 10, 30, 70, 25);
        x.remove(20);
        Checks.due("20 found", pathOf(x, 25), "50 20 30 25");
        Checks.due("20 a marked node", pathOf(x, 20), "50 20");
        Checks.due("20 not found", pathOf(x, 27), "50 20 30 25");
        Checks.due("20 not found", pathOf(x, 75), "50 80 70");
        Checks.due("20 least and greatest", pathOf(x, 0) + "," + pathOf(x, 499), "50 20 10,50 80");
        Checks.due("20 far index", x.path(25, GREATEST), -1);
        Checks.due("20 empty", new BackgroundRebuild().path(5, 0), -1);
        refusesEach("20 key", x, ILLEGAL, key -> x.path(key, 0), WRONG_KEYS);
        refusesEach("20 index", x, ILLEGAL, index -> x.path(5, index), -1, LEAST);
    }

    private static void promise21Tree() {
        BackgroundRebuild x = quiet(50, 20, 80, 10, 30, 70, 25);
        x.remove(20);
        x.remove(25);
        Checks.due("21 tree", treeOf(x, false), "7 5 2 4 18 3 3");
        Checks.due("21 no second tree", treeOf(x, true), "0 0 0 0 0 0 0");
        x.begin();
        x.idle();
        Checks.due("21 second tree", treeOf(x, true), "2 2 0 2 3 1 2");
        int[] least = {0, 1, 2, 2, 3, 3, 3, 3, 4};
        BackgroundRebuild y = quiet();
        for (int n = 0; n < least.length; n++) {
            Checks.due("21 least depth of " + n, y.tree(false, 6), least[n]);
            y.add(10 * n);
        }
        Checks.due("21 one node", treeOf(quiet(5), false), "1 1 0 1 1 1 1");
        Checks.due("21 least depth of 120", full().tree(false, 6), 7);
        refusesEach("21 what", x, ILLEGAL, what -> x.tree(false, what), -1, 7, LEAST, GREATEST);
        refusesEach("21 what", x, ILLEGAL, what -> x.tree(true, what), -1, 7, LEAST, GREATEST);
    }

    private static void promise22Rebuild() {
        BackgroundRebuild x = quiet(1, 2, 3, 4, 5, 6);
        x.remove(1);
        Checks.due("22 none", rebuildOf(x), "0 0 0 0 -1 0");
        x.begin();
        Checks.due("22 begun", rebuildOf(x), "1 5 0 0 4 5");
        x.remove(4);
        Checks.due("22 removed", rebuildOf(x), "1 5 2 1 2 4");
        x.add(7);
        Checks.due("22 added", rebuildOf(x), "1 5 4 2 5 3");
        x.set(2, 1);
        x.idle();
        Checks.due("22 all copied", rebuildOf(x), "2 5 5 2 -1 2");
        x.idle();
        Checks.due("22 replayed", rebuildOf(x), "2 5 5 1 -1 1");
        x.idle();
        Checks.due("22 exchanged", rebuildOf(x), "0 0 0 0 -1 0");
        refusesEach("22 what", x, ILLEGAL, what -> x.rebuild(what), -1, 6, LEAST, GREATEST);
    }

    private static void promise23Queued() {
        BackgroundRebuild x = quiet();
        for (int i = 0; i < 20; i++) {
            x.add(200 + i * 7 % 20);
        }
        Checks.due("23 no rebuild", x.queued(0), -1);
        x.set(2, 1);
        x.begin();
        x.add(0);
        x.remove(0);
        x.add(0);
        x.add(0);
        x.remove(300);
        x.idle();
        x.remove(219);
        x.add(499);
        x.remove(499);
        Checks.due("23 queue", queueOf(x), "0 500 0 719 499 999");
        Checks.due("23 far index", x.queued(6) + x.queued(GREATEST), -2);
        refusesEach("23 index", x, ILLEGAL, index -> x.queued(index), -1, LEAST);
        for (int i = 0; i < 12; i++) {
            x.idle();
        }
        Checks.due("23 the first ones are taken first", queueOf(x), "500 0 719 499 999");
    }

    private static void promise24Count() {
        BackgroundRebuild x = new BackgroundRebuild();
        x.add(5);
        x.add(6);
        x.add(7);
        x.add(1);
        Checks.due("24 latest", x.count(0), 1);
        Checks.due("24 greatest", x.count(1), 2);
        Checks.due("24 all", x.count(2), 4);
        Checks.due("24 acts", x.count(3), 4);
        x.begin();
        x.abandon();
        x.begin();
        x.idle();
        x.idle();
        Checks.due("24 work", x.count(0) + " " + x.count(1) + " " + x.count(2) + " " + x.count(3), "2 2 8 6");
        Checks.due("24 rebuilds", x.count(4) + " " + x.count(5) + " " + x.count(6), "2 1 1");
        x.set(0, 50);
        Checks.due("24 set is no act", x.count(0) + " " + x.count(3), "2 6");
        type(x, "abcde");
        Checks.due("24 saved states and buffer", x.count(7) + " " + x.count(8), "6 5");
        x.undo();
        Checks.due("24 saved states", x.count(7), 5);
        refusesEach("24 what", x, ILLEGAL, what -> x.count(what), -1, 9, LEAST, GREATEST);
    }

    private static void promise25Setting() {
        BackgroundRebuild x = new BackgroundRebuild();
        Checks.due("25 at first", x.setting(0) + " " + x.setting(1) + " " + x.setting(2), "50 10 2");
        x.set(0, 11);
        x.set(1, 12);
        x.set(2, 3);
        Checks.due("25 changed", x.setting(0) + " " + x.setting(1) + " " + x.setting(2), "11 12 3");
        refusesEach("25 setting", x, BOUNDS, setting -> x.setting(setting), -1, 3, LEAST, GREATEST);
    }

    private static void promise26UntilExchange() {
        BackgroundRebuild x = quiet(1, 2, 3, 4, 5, 6, 7, 8, 9);
        refusesEach("26 speed", x, ILLEGAL, speed -> x.untilExchange(speed), WRONG_SPEEDS);
        for (int speed = 1; speed <= 8; speed++) {
            Checks.due("26 none is running", x.untilExchange(speed), -1);
        }
        x.begin();
        x.remove(9);
        int[] due = {8, 4, 3, 2, 2, 2, 2, 1};
        String before = all(x);
        for (int speed = 1; speed <= 8; speed++) {
            Checks.due("26 speed " + speed, x.untilExchange(speed), due[speed - 1]);
        }
        Checks.due("26 nothing changes", all(x), before);
        refusesEach("26 speed", x, ILLEGAL, speed -> x.untilExchange(speed), WRONG_SPEEDS);
        BackgroundRebuild y = new BackgroundRebuild();
        y.begin();
        Checks.due("26 an empty list takes a step", y.untilExchange(1) + y.untilExchange(8), 2);
    }

    private static void promise27Longest() {
        BackgroundRebuild x = quiet(1, 2, 3, 4);
        refusesEach("27 speed", x, ILLEGAL, speed -> x.longest(speed), WRONG_SPEEDS);
        for (int speed = 1; speed <= 8; speed++) {
            Checks.due("27 none is running", x.longest(speed), -1);
        }
        x.set(2, 1);
        x.begin();
        x.add(5);
        x.add(6);
        x.remove(6);
        Checks.due("27 queue", queueOf(x) + "|" + keysOf(x, true), "5 6 506|3 2 1");
        // The steps that are left copy 4 (1), add 5 (2 nodes), add 6 (3), remove 6 (4).
        int[] due = {4, 7, 6, 10, 10, 10, 10, 10};
        String before = all(x);
        for (int speed = 1; speed <= 8; speed++) {
            Checks.due("27 speed " + speed, x.longest(speed), due[speed - 1]);
        }
        Checks.due("27 nothing changes", all(x), before);
        refusesEach("27 speed", x, ILLEGAL, speed -> x.longest(speed), WRONG_SPEEDS);
        Checks.due("27 as foretold", x.idle() + " " + x.idle() + " " + x.idle() + " " + x.idle(), "1 2 3 4");
        BackgroundRebuild y = new BackgroundRebuild();
        y.begin();
        Checks.due("27 a step without work", y.longest(1), 0);
    }

    private static void promise28LeastSpeed() {
        BackgroundRebuild x = quiet();
        for (int i = 0; i < 20; i++) {
            x.add(i * 7 % 20);
        }
        Checks.due("28 none is running", x.leastSpeed(1) + x.leastSpeed(1000), -2);
        x.begin();
        int[] due = {-1, -1, 7, 5, 4, 4, 3, 3, 3, 2};
        for (int calls = 1; calls <= 10; calls++) {
            Checks.due("28 calls " + calls, x.leastSpeed(calls), due[calls - 1]);
        }
        Checks.due("28 calls 19", x.leastSpeed(19), 2);
        Checks.due("28 calls 20", x.leastSpeed(20), 1);
        Checks.due("28 many calls", x.leastSpeed(GREATEST), 1);
        refusesEach("28 calls", x, ILLEGAL, calls -> x.leastSpeed(calls), 0, -1, LEAST);
        x.idle();
        x.idle();
        Checks.due("28 sixteen steps", x.leastSpeed(2), 8);
        BackgroundRebuild y = new BackgroundRebuild();
        refused("28 calls 0", y, ILLEGAL, () -> y.leastSpeed(0));
        y.begin();
        Checks.due("28 one step", y.leastSpeed(1), 1);
    }

    private static void promise29MeanDepth() {
        BackgroundRebuild x = quiet();
        Checks.due("29 empty", x.meanDepth(), 0.0);
        x.add(50);
        Checks.due("29 one", x.meanDepth(), 1.0);
        x.add(20);
        x.add(80);
        Checks.due("29 three", x.meanDepth(), 5.0 / 3.0);
        x.add(10);
        x.remove(20);
        Checks.due("29 a marked one does not count", x.meanDepth(), 2.0);
        x.remove(50);
        x.remove(80);
        x.remove(10);
        Checks.due("29 only marked ones", x.meanDepth(), 0.0);
    }

    // ---- terms on which all promises rest

    private static void termsThresholds() {
        BackgroundRebuild x = new BackgroundRebuild();
        for (int key : new int[] {50, 20, 80, 70}) {
            x.add(key);
        }
        x.remove(50);
        x.remove(20);
        Checks.due("terms just half is marked", x.rebuild(0), 0);
        x.remove(80);
        Checks.due("terms more than half is marked", x.rebuild(0) + " " + x.rebuild(1), "1 1");
        Checks.due("terms no step in this act", x.rebuild(2), 0);
        BackgroundRebuild y = quiet(1, 2, 3, 4);
        y.set(1, 4);
        y.idle();
        Checks.due("terms depth is not greater", y.rebuild(0), 0);
        y.add(5);
        Checks.due("terms depth is greater", y.rebuild(0), 1);
        BackgroundRebuild z = quiet(1, 2, 3);
        z.remove(1);
        z.remove(2);
        z.remove(3);
        Checks.due("terms never more than all", z.rebuild(0), 0);
        z.set(0, 99);
        z.idle();
        Checks.due("terms an empty list", z.rebuild(0) + " " + z.rebuild(1), "2 0");
        Checks.due("terms its step", z.idle() + " " + z.rebuild(0) + " " + z.tree(false, 0), "0 0 0");
    }

    private static void termsOrderOfParts() {
        BackgroundRebuild x = quiet(0, 1, 2, 3, 4, 5, 6, 7);
        x.set(2, 8);
        x.set(1, 3);
        x.begin();
        Checks.due("terms eight copies", x.idle(), 8);
        Checks.due("terms exchanged and begun again", x.count(5) + " " + x.count(4) + " " + x.rebuild(0) + " " + x.rebuild(2), "1 2 1 0");
        Checks.due("terms the new tree", keysOf(x, false), "4 2 1 0 3 6 5 7");
        x.remove(3);
        // 3 is visited at depth 3, eight copies follow, and the act itself waits.
        Checks.due("terms work of both parts", x.count(0), 11);
        Checks.due("terms the act waits", queueOf(x) + " " + x.rebuild(5), "503 1");
        x.add(3);
        // 3 is visited at depth 3 twice in the second tree, too.
        Checks.due("terms replayed in the same act", x.count(0) + " " + x.count(5), "9 2");
        Checks.due("terms present again", keysOf(x, false), "4 2 1 0 3 6 5 7");
    }

    private static void termsQueueOverflow() {
        BackgroundRebuild x = full();
        x.set(2, 1);
        x.begin();
        for (int i = 0; i < 30; i++) {
            x.remove(i);
        }
        Checks.due("terms thirty wait", x.rebuild(3) + " " + x.rebuild(2), "30 30");
        x.remove(0);
        Checks.due("terms nothing to be queued", x.rebuild(3) + " " + x.rebuild(2), "30 31");
        x.idle();
        int before = x.count(2);
        x.remove(30);
        Checks.due("terms abandoned", rebuildOf(x) + " " + x.count(6), "0 0 0 0 -1 0 1");
        Checks.due("terms no step in this act", x.count(2) - before, x.count(0));
        int visited = 0;
        while (x.path(30, visited) != BackgroundRebuild.NONE) {
            visited++;
        }
        Checks.due("terms its work", x.count(0), visited);
        Checks.due("terms removed all the same", x.contains(30), false);
        x.undo();
        x.set(0, 10);
        x.remove(30);
        Checks.due("terms begun again in the same act", x.count(6) + " " + x.rebuild(0) + " " + x.rebuild(1) + " " + x.rebuild(2), "1 1 89 0");
    }

    private static void termsMarkedInSecondTree() {
        BackgroundRebuild x = quiet(1, 2, 3, 4, 5, 6);
        x.begin();
        x.remove(4);
        x.add(9);
        x.remove(9);
        x.idle();
        Checks.due("terms second tree", keysOf(x, true) + "|" + queueOf(x), "4* 2 1 3 6 5 9|509");
        x.idle();
        Checks.due("terms marked nodes come along", keysOf(x, false), "4* 2 1 3 6 5 9*");
        Checks.due("terms no rebuild", x.rebuild(0), 0);
        x.begin();
        x.set(2, 8);
        x.idle();
        Checks.due("terms marked nodes are left behind", keysOf(x, false), "3 2 1 6 5");
    }
}
