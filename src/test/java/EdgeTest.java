/** The promises 1 to 7 and 15 to 29 at their boundaries: a test for each sentence that names one. */
public final class EdgeTest extends Scenes {
    public static void main(String[] args) {
        newObject();
        addAnswers();
        addToAFullTree();
        removeAnswers();
        idleAnswers();
        beginAnswers();
        beginWhateverTheSettingsAre();
        beginWhileOneIsRunning();
        abandonAnswers();
        abandonWhileNoneIsRunning();
        setAnswers();
        containsKeys();
        nearKeys();
        nearNothing();
        nearInAFullTree();
        ranks();
        keysAtRanks();
        noKeyAtRank();
        nodesOfATree();
        noSuchNode();
        nodesOfTheSecondTree();
        paths();
        noSuchVisitedNode();
        numbersOfATree();
        leastPossibleDepth();
        nodesWithoutChildren();
        conditionsOfARebuild();
        noRebuild();
        nextKey();
        keysInJustOneTree();
        queuedActs();
        countsAtFirst();
        countsOfWork();
        countsOfRebuilds();
        countsOfStatesAndCharacters();
        settings();
        callsUntilTheExchange();
        noCallsUntilTheExchange();
        longestCalls();
        leastSpeeds();
        noLeastSpeed();
        meanDepths();
        Checks.end("EdgeTest");
    }

    // ---- promises 1 to 7

    /** "Creates an empty tree.", and "NONE = -1" */
    private static void newObject() {
        BackgroundRebuild x = new BackgroundRebuild();
        Checks.due("NONE", BackgroundRebuild.NONE, -1);
        Checks.due("both trees", treeOf(x, false) + "|" + treeOf(x, true), "0 0 0 0 0 0 0|0 0 0 0 0 0 0");
        Checks.due("the rebuild", rebuildOf(x) + "|" + queueOf(x), "0 0 0 0 -1 0|");
        Checks.due("counts and settings", countsOf(x) + "|" + settingsOf(x), "0 0 0 0 0 0 0 0 0|50 10 2");
        Checks.due("keys", x.contains(0) + " " + x.rank(499) + " " + x.keyAt(0) + " " + x.meanDepth(), "false 0 -1 0.0");
        Checks.due("another one is a tree of its own", new BackgroundRebuild().add(5) + " " + x.contains(5), "1 false");
    }

    /** "Returns 1 if the key was not present before, otherwise 0." */
    private static void addAnswers() {
        BackgroundRebuild x = new BackgroundRebuild();
        for (int key : new int[] {0, 499, 1, 498}) {
            Checks.due("a new key", x.add(key) + " " + x.contains(key), "1 true");
            Checks.due("a present key", x.add(key) + " " + x.contains(key), "0 true");
        }
        x.remove(499);
        Checks.due("a marked key", x.add(499) + " " + x.add(499), "1 0");
        Checks.throwsJust("-1", ILLEGAL, () -> x.add(-1));
        Checks.throwsJust("500", ILLEGAL, () -> x.add(500));
        Checks.due("four nodes", x.tree(false, 0), 4);
    }

    /** "if the tree has 120 nodes and none of them has this key" */
    private static void addToAFullTree() {
        BackgroundRebuild x = low(119);
        Checks.due("119 nodes", x.add(499), 1);
        for (int key : new int[] {119, 120, 498}) {
            Checks.throwsJust("120 nodes", STATE, () -> x.add(key));
        }
        Checks.due("a node with this key", x.add(499) + " " + x.add(0) + " " + x.add(118), "0 0 0");
        x.remove(50);
        Checks.throwsJust("a marked node", STATE, () -> x.add(300));
        Checks.due("a marked node with this key", x.add(50), 1);
        x.remove(499);
        x.set(2, 8);
        x.begin();
        idle(x, 14);
        Checks.throwsJust("a second tree of 112 nodes", STATE, () -> x.add(300));
        x.idle();
        Checks.due("exchanged for a tree of 119 nodes", x.tree(false, 0) + " " + x.add(300), "119 1");
        Checks.throwsJust("full again", STATE, () -> x.add(301));
    }

    /** "Returns 1 if the key was present before, otherwise 0." */
    private static void removeAnswers() {
        BackgroundRebuild x = quiet(0, 499, 250);
        Checks.due("no such node", x.remove(1) + " " + x.remove(498), "0 0");
        for (int key : new int[] {0, 499, 250}) {
            Checks.due("a present key", x.remove(key) + " " + x.contains(key), "1 false");
            Checks.due("a marked key", x.remove(key) + " " + x.contains(key), "0 false");
        }
        Checks.due("an empty tree", new BackgroundRebuild().remove(0), 0);
        Checks.due("a full tree", full().remove(119) + " " + full().remove(120), "1 0");
        Checks.throwsJust("-1", ILLEGAL, () -> x.remove(-1));
        Checks.throwsJust("500", ILLEGAL, () -> x.remove(500));
    }

    /** "Returns the work of the act." of idle(): no part 1, so that it is the work of the steps. */
    private static void idleAnswers() {
        BackgroundRebuild x = low(10);
        Checks.due("no rebuild", x.idle(), 0);
        x.set(2, 8);
        x.begin();
        Checks.due("eight copies, then two", x.idle() + " " + x.idle() + " " + x.idle(), "8 2 0");
        x.set(1, 3);
        Checks.due("one begins", x.idle() + " " + x.rebuild(0), "0 1");
        Checks.due("its copies", x.idle() + " " + x.idle() + " " + x.rebuild(0), "8 2 1");
    }

    /** "Returns the number of keys in its list." of begin() */
    private static void beginAnswers() {
        Checks.due("no node", new BackgroundRebuild().begin(), 0);
        Checks.due("one key", quiet(5).begin(), 1);
        Checks.due("120 keys", full().begin(), 120);
        BackgroundRebuild x = full();
        x.remove(0);
        x.remove(119);
        Checks.due("marked ones are not present", x.begin(), 118);
        BackgroundRebuild y = quiet(5);
        y.remove(5);
        Checks.due("only a marked one", y.begin() + " " + y.rebuild(0), "0 2");
    }

    /** "whatever the settings are" */
    private static void beginWhateverTheSettingsAre() {
        for (int i = 0; i < 2; i++) {
            BackgroundRebuild x = quiet(2, 1, 3);
            x.set(0, i == 0 ? 10 : 100);
            x.set(1, i == 0 ? 3 : 40);
            x.set(2, i == 0 ? 1 : 8);
            Checks.due("no threshold is exceeded", x.begin() + " " + x.count(4) + " " + x.count(3), "3 1 3");
        }
        BackgroundRebuild y = quiet(1, 2, 3, 4);
        y.set(1, 3);
        Checks.due("one is exceeded", y.begin() + " " + y.count(4), "4 1");
    }

    /** "if a rebuild is running" */
    private static void beginWhileOneIsRunning() {
        BackgroundRebuild x = quiet(1, 2);
        x.set(2, 1);
        x.begin();
        Checks.throwsJust("keys are left", STATE, () -> x.begin());
        x.add(3);
        x.idle();
        Checks.throwsJust("no keys are left", STATE, () -> x.begin());
        x.idle();
        Checks.due("behind the exchange", x.begin(), 3);
        x.abandon();
        Checks.due("behind abandon()", x.begin(), 3);
        x.undo();
        Checks.due("behind undo()", x.begin(), 3);
    }

    /** "Returns the number of keys that were copied." */
    private static void abandonAnswers() {
        BackgroundRebuild x = quiet(1, 2, 3);
        x.set(2, 1);
        x.begin();
        Checks.due("none", x.abandon(), 0);
        x.begin();
        x.idle();
        Checks.due("one", x.abandon(), 1);
        x.begin();
        x.add(4);
        x.add(5);
        x.idle();
        Checks.due("all, and acts are queued", x.rebuild(0) + " " + x.abandon(), "2 3");
        x.begin();
        x.remove(5);
        x.remove(4);
        idle(x, 4);
        Checks.due("replayed acts are no copies", x.rebuild(3) + " " + x.tree(true, 0) + " " + x.abandon(), "1 5 5");
        Checks.due("counted", x.count(6) + " " + x.count(5), "4 0");
        BackgroundRebuild y = new BackgroundRebuild();
        y.begin();
        Checks.due("an empty list", y.abandon() + " " + y.count(6), "0 1");
        BackgroundRebuild z = full();
        z.set(2, 8);
        z.begin();
        z.remove(0);
        idle(z, 14);
        Checks.due("120", z.rebuild(0) + " " + z.abandon(), "2 120");
    }

    /** "if no rebuild is running" */
    private static void abandonWhileNoneIsRunning() {
        BackgroundRebuild x = quiet(1, 2);
        Checks.throwsJust("none was begun", STATE, () -> x.abandon());
        x.begin();
        x.idle();
        Checks.throwsJust("behind the exchange", STATE, () -> x.abandon());
        x.begin();
        x.abandon();
        Checks.throwsJust("behind abandon()", STATE, () -> x.abandon());
        x.begin();
        x.undo();
        Checks.throwsJust("behind undo()", STATE, () -> x.abandon());
        x.keep(0);
        x.begin();
        x.goBack(0);
        Checks.throwsJust("behind goBack()", STATE, () -> x.abandon());
    }

    /** "Returns the previous value.", for the settings 0 to 2 */
    private static void setAnswers() {
        BackgroundRebuild x = new BackgroundRebuild();
        Checks.due("percent", x.set(0, 10) + " " + x.set(0, 100) + " " + x.set(0, 100) + " " + x.setting(0), "50 10 100 100");
        Checks.due("depth", x.set(1, 3) + " " + x.set(1, 40) + " " + x.set(1, 40) + " " + x.setting(1), "10 3 40 40");
        Checks.due("speed", x.set(2, 1) + " " + x.set(2, 8) + " " + x.set(2, 8) + " " + x.setting(2), "2 1 8 8");
        Checks.throwsJust("setting -1", BOUNDS, () -> x.set(-1, 10));
        Checks.throwsJust("setting 3", BOUNDS, () -> x.set(3, 8));
        for (int[] wrong : new int[][] {{0, 9}, {0, 101}, {1, 2}, {1, 41}, {2, 0}, {2, 9}}) {
            Checks.throwsJust("value " + wrong[1], ILLEGAL, () -> x.set(wrong[0], wrong[1]));
        }
        Checks.due("as before", settingsOf(x), "100 40 8");
    }

    // ---- promises 15 to 18

    /** contains(): "0 to 499" */
    private static void containsKeys() {
        BackgroundRebuild x = quiet(0, 499, 250);
        x.remove(250);
        StringBuilder present = new StringBuilder();
        for (int key = 0; key < 500; key++) {
            present.append(x.contains(key) ? key + " " : "");
        }
        Checks.due("the present keys", present.toString(), "0 499 ");
    }

    private static String nearOf(BackgroundRebuild x, int key) {
        return answers(4, what -> x.near(key, what));
    }

    /** near(): "not greater", "not less", "less", "greater" */
    private static void nearKeys() {
        BackgroundRebuild x = quiet(250, 0, 499);
        Checks.due("the least key", nearOf(x, 0), "0 0 -1 250");
        Checks.due("the next one", nearOf(x, 1), "0 250 0 250");
        Checks.due("below a key", nearOf(x, 249), "0 250 0 250");
        Checks.due("a key", nearOf(x, 250), "250 250 0 499");
        Checks.due("above a key", nearOf(x, 251), "250 499 250 499");
        Checks.due("the one before the greatest", nearOf(x, 498), "250 499 250 499");
        Checks.due("the greatest key", nearOf(x, 499), "499 499 250 -1");
        x.remove(250);
        Checks.due("a marked key", nearOf(x, 250), "0 499 0 499");
    }

    /** near(): "NONE if there is none." */
    private static void nearNothing() {
        BackgroundRebuild x = new BackgroundRebuild();
        for (int key : new int[] {0, 250, 499}) {
            Checks.due("no nodes", nearOf(x, key), "-1 -1 -1 -1");
        }
        x.add(250);
        Checks.due("nothing below", nearOf(x, 249) + "|" + nearOf(x, 0), "-1 250 -1 250|-1 250 -1 250");
        Checks.due("nothing above", nearOf(x, 251) + "|" + nearOf(x, 499), "250 -1 250 -1|250 -1 250 -1");
        Checks.due("nothing beside it", nearOf(x, 250), "250 250 -1 -1");
        BackgroundRebuild y = quiet(7, 8);
        y.remove(7);
        y.remove(8);
        Checks.due("only marked ones", nearOf(y, 7), "-1 -1 -1 -1");
    }

    /** near() with 120 nodes */
    private static void nearInAFullTree() {
        BackgroundRebuild x = full();
        for (int key = 1; key < 119; key += 13) {
            Checks.due("key " + key, nearOf(x, key), key + " " + key + " " + (key - 1) + " " + (key + 1));
        }
        Checks.due("the greatest key", nearOf(x, 119) + "|" + nearOf(x, 120), "119 119 118 -1|119 -1 119 -1");
    }

    /** rank(): "how many present keys are less than key" */
    private static void ranks() {
        BackgroundRebuild x = quiet(250, 0, 499);
        Checks.due("none is less than 0", x.rank(0), 0);
        Checks.due("0 is less than 1", x.rank(1), 1);
        Checks.due("a key is not less than itself", x.rank(250) + " " + x.rank(251) + " " + x.rank(499), "1 2 2");
        x.remove(0);
        Checks.due("a marked key is not present", x.rank(1) + " " + x.rank(499), "0 1");
        Checks.due("no nodes", new BackgroundRebuild().rank(499), 0);
        BackgroundRebuild y = full();
        Checks.due("120 nodes", y.rank(0) + " " + y.rank(119) + " " + y.rank(120) + " " + y.rank(499), "0 119 120 120");
    }

    /** keyAt(): "Returns the key" */
    private static void keysAtRanks() {
        BackgroundRebuild x = quiet(250, 0, 499, 100);
        x.remove(100);
        Checks.due("the first and the last", x.keyAt(0) + " " + x.keyAt(1) + " " + x.keyAt(2), "0 250 499");
        BackgroundRebuild y = full();
        Checks.due("120 nodes", y.keyAt(0) + " " + y.keyAt(118) + " " + y.keyAt(119), "0 118 119");
    }

    /** keyAt(): "NONE if there are not so many present keys.", "if rank is negative" */
    private static void noKeyAtRank() {
        BackgroundRebuild x = quiet(250, 0, 499, 100);
        x.remove(100);
        Checks.due("three keys", x.keyAt(3) + " " + x.keyAt(4) + " " + x.keyAt(GREATEST), "-1 -1 -1");
        Checks.due("no nodes", new BackgroundRebuild().keyAt(0), NONE);
        Checks.due("120 nodes", full().keyAt(120), NONE);
        BackgroundRebuild y = quiet(0);
        Checks.due("one key, then none", y.keyAt(0) + " " + y.undo() + " " + y.keyAt(0), "0 2 -1");
        Checks.throwsJust("-1", ILLEGAL, () -> x.keyAt(-1));
    }

    // ---- promises 19 to 21

    private static String nodeOf(BackgroundRebuild x, boolean second, int node) {
        return answers(5, what -> x.node(second, node, what));
    }

    /** node(): "numbered from 0", and what is asked: 0 to 4 */
    private static void nodesOfATree() {
        BackgroundRebuild x = quiet(5, 3, 8, 4, 7, 9);
        x.remove(3);
        x.remove(8);
        x.remove(9);
        Checks.due("the root", nodeOf(x, false, 0), "5 0 1 6 3");
        Checks.due("left ahead of right", keysOf(x, false), "5 3* 4 8* 7 9*");
        Checks.due("only a right child", nodeOf(x, false, 1), "3 1 2 2 1");
        Checks.due("both children", nodeOf(x, false, 3), "8 1 2 3 1");
        Checks.due("no child", nodeOf(x, false, 4), "7 0 3 1 1");
        Checks.due("the last node, no present key below", nodeOf(x, false, 5), "9 1 3 1 0");
        BackgroundRebuild y = full();
        Checks.due("the root of 120 nodes", nodeOf(y, false, 0), "0 0 1 120 120");
        Checks.due("the last one of 120", y.node(false, 119, 0) + " " + y.node(false, 119, 3), "119 1");
    }

    /** node(): "NONE if the tree has no such node." */
    private static void noSuchNode() {
        Checks.due("no nodes", nodeOf(new BackgroundRebuild(), false, 0), "-1 -1 -1 -1 -1");
        BackgroundRebuild x = quiet(5);
        Checks.due("one node", nodeOf(x, false, 0) + "|" + nodeOf(x, false, 1), "5 0 1 1 1|-1 -1 -1 -1 -1");
        Checks.due("far away", nodeOf(x, false, GREATEST), "-1 -1 -1 -1 -1");
        Checks.due("120 nodes", nodeOf(full(), false, 120), "-1 -1 -1 -1 -1");
        Checks.throwsJust("-1", ILLEGAL, () -> x.node(false, -1, 0));
        Checks.throwsJust("-1 of no nodes", ILLEGAL, () -> x.node(true, -1, 0));
        Checks.throwsJust("what 5", ILLEGAL, () -> x.node(false, 0, 5));
        Checks.throwsJust("what 5 of no node", ILLEGAL, () -> x.node(true, 7, 5));
    }

    /** "the second tree (which has no nodes if no rebuild is running)" */
    private static void nodesOfTheSecondTree() {
        BackgroundRebuild x = quiet(5, 3);
        x.set(2, 1);
        Checks.due("none is running", nodeOf(x, true, 0) + "|" + treeOf(x, true), "-1 -1 -1 -1 -1|0 0 0 0 0 0 0");
        x.begin();
        Checks.due("none is copied", nodeOf(x, true, 0) + "|" + treeOf(x, true), "-1 -1 -1 -1 -1|0 0 0 0 0 0 0");
        x.remove(5);
        Checks.due("one is copied", nodeOf(x, true, 0) + "|" + nodeOf(x, true, 1) + "|" + treeOf(x, true),
                "5 0 1 1 1|-1 -1 -1 -1 -1|1 1 0 1 1 1 1");
        x.add(9);
        x.idle();
        Checks.due("5 is marked", nodeOf(x, true, 0) + "|" + treeOf(x, true), "5 1 1 2 1|2 1 1 2 3 1 1");
        x.idle();
        Checks.due("exchanged", nodeOf(x, true, 0) + "|" + treeOf(x, true), "-1 -1 -1 -1 -1|0 0 0 0 0 0 0");
        Checks.due("the tree now", nodeOf(x, false, 0) + "|" + treeOf(x, false), "5 1 1 3 2|3 2 1 2 5 2 2");
        x.begin();
        x.idle();
        x.abandon();
        Checks.due("abandoned", nodeOf(x, true, 0) + "|" + treeOf(x, true), "-1 -1 -1 -1 -1|0 0 0 0 0 0 0");
    }

    /** path(): "0 for the first visited node" */
    private static void paths() {
        BackgroundRebuild x = quiet(250, 0, 499, 100, 50);
        Checks.due("the root", pathOf(x, 250), "250");
        Checks.due("the least key", pathOf(x, 0), "250 0");
        Checks.due("the greatest key", pathOf(x, 499), "250 499");
        Checks.due("a leaf", pathOf(x, 50), "250 0 100 50");
        Checks.due("no node", pathOf(x, 49) + "," + pathOf(x, 51) + "," + pathOf(x, 101), "250 0 100 50,250 0 100 50,250 0 100");
        x.remove(100);
        Checks.due("marked nodes are visited", pathOf(x, 100) + "," + pathOf(x, 1), "250 0 100,250 0 100 50");
    }

    /** path(): "NONE if there are not so many visited nodes.", "index is negative" */
    private static void noSuchVisitedNode() {
        BackgroundRebuild x = quiet(250, 0, 499);
        Checks.due("no nodes", new BackgroundRebuild().path(0, 0), NONE);
        Checks.due("one visited node", x.path(250, 0) + " " + x.path(250, 1), "250 -1");
        Checks.due("two visited nodes", x.path(10, 1) + " " + x.path(10, 2) + " " + x.path(10, GREATEST), "0 -1 -1");
        Checks.throwsJust("-1", ILLEGAL, () -> x.path(10, -1));
        Checks.throwsJust("key 500", ILLEGAL, () -> x.path(500, 0));
        Checks.throwsJust("key -1", ILLEGAL, () -> x.path(-1, 0));
    }

    /** tree(): what is asked: 0 to 6 */
    private static void numbersOfATree() {
        BackgroundRebuild x = quiet(5, 3, 8, 4, 7, 9);
        x.remove(3);
        x.remove(8);
        x.remove(9);
        Checks.due("six nodes", treeOf(x, false), "6 3 3 3 14 3 2");
        Checks.due("120 nodes", full().tree(false, 0) + " " + full().tree(false, 1) + " " + full().tree(false, 2), "120 120 0");
        Checks.throwsJust("what -1", ILLEGAL, () -> x.tree(false, -1));
        Checks.throwsJust("what 7", ILLEGAL, () -> x.tree(false, 7));
        Checks.throwsJust("what 7 of no nodes", ILLEGAL, () -> x.tree(true, 7));
    }

    /** tree(): "the least possible depth of a tree whose nodes are the present keys" */
    private static void leastPossibleDepth() {
        for (int keys = 0; keys <= 120; keys++) {
            int depth = 0;
            while (Math.pow(2, depth) - 1 < keys) {
                depth++;
            }
            Checks.due("least depth of " + keys, low(keys).tree(false, 6), depth);
        }
        BackgroundRebuild x = low(8);
        Checks.due("eight present keys", x.tree(false, 6), 4);
        x.remove(0);
        Checks.due("seven of eight nodes", x.tree(false, 6), 3);
        x.begin();
        x.idle();
        Checks.due("two keys of the second tree", x.tree(true, 6), 2);
    }

    /** tree(): "the number of nodes without children" */
    private static void nodesWithoutChildren() {
        BackgroundRebuild x = quiet(5);
        Checks.due("the root", x.tree(false, 5), 1);
        x.add(3);
        Checks.due("a left child", x.tree(false, 5), 1);
        x.add(8);
        Checks.due("two children", x.tree(false, 5), 2);
        x.add(9);
        Checks.due("a right child below", x.tree(false, 5), 2);
        x.remove(3);
        Checks.due("a marked one is one", x.tree(false, 5), 2);
    }

    // ---- promises 22 to 25

    /** rebuild(): "0 no rebuild is running, 1 keys are left to be copied, 2 no keys are left to be copied" */
    private static void conditionsOfARebuild() {
        BackgroundRebuild x = quiet(1, 2);
        x.set(2, 1);
        Checks.due("none", rebuildOf(x), "0 0 0 0 -1 0");
        x.begin();
        Checks.due("two are left", rebuildOf(x), "1 2 0 0 2 2");
        x.add(3);
        Checks.due("one is left", rebuildOf(x), "1 2 1 1 1 2");
        x.idle();
        Checks.due("none is left", rebuildOf(x), "2 2 2 1 -1 1");
        x.idle();
        Checks.due("exchanged", rebuildOf(x), "0 0 0 0 -1 0");
        BackgroundRebuild y = new BackgroundRebuild();
        y.begin();
        Checks.due("none was in the list", rebuildOf(y), "2 0 0 0 -1 0");
        Checks.throwsJust("what -1", ILLEGAL, () -> y.rebuild(-1));
        Checks.throwsJust("what 6", ILLEGAL, () -> y.rebuild(6));
    }

    /** rebuild(): "0 for 1, 2, 3 and 5, and NONE for 4, if no rebuild is running." */
    private static void noRebuild() {
        BackgroundRebuild x = quiet(1, 2, 3);
        Checks.due("none was begun", rebuildOf(x), "0 0 0 0 -1 0");
        x.begin();
        x.add(4);
        x.add(5);
        Checks.due("running", rebuildOf(x), "2 3 3 1 -1 1");
        x.keep(0);
        x.abandon();
        Checks.due("abandoned", rebuildOf(x), "0 0 0 0 -1 0");
        x.goBack(0);
        Checks.due("running again", rebuildOf(x), "2 3 3 1 -1 1");
        x.idle();
        Checks.due("exchanged", rebuildOf(x) + "|" + x.count(5), "0 0 0 0 -1 0|1");
    }

    /** rebuild(): "the next key to be copied (NONE if none is left)" */
    private static void nextKey() {
        BackgroundRebuild x = quiet(0, 499);
        x.set(2, 1);
        x.begin();
        Checks.due("the first one", x.rebuild(4), 499);
        x.remove(0);
        Checks.due("the last one, though it is removed", x.rebuild(4), 0);
        x.idle();
        Checks.due("none is left", x.rebuild(4) + " " + x.rebuild(0), "-1 2");
    }

    /** rebuild(): "the number of keys that are present in just one of both trees" */
    private static void keysInJustOneTree() {
        BackgroundRebuild x = full();
        x.set(2, 1);
        x.begin();
        Checks.due("none is copied", x.rebuild(5), 120);
        idle(x, 119);
        Checks.due("one is not", x.rebuild(5), 1);
        x.remove(0);
        Checks.due("only in the second tree", x.rebuild(5), 1);
        BackgroundRebuild y = quiet(1, 2);
        y.set(2, 1);
        y.begin();
        y.remove(2);
        Checks.due("one in each", keysOf(y, false) + "|" + keysOf(y, true) + "|" + y.rebuild(5), "1 2*|2|2");
        y.idle();
        y.idle();
        Checks.due("exchanged", y.rebuild(5), 0);
        BackgroundRebuild z = low(3);
        z.set(2, 1);
        z.begin();
        z.remove(1);
        z.add(300);
        idle(z, 2);
        z.add(1);
        Checks.due("marked in the second tree", keysOf(z, true) + "|" + queueOf(z) + "|" + z.rebuild(5), "1* 0 2 300|1|1");
    }

    /** queued(): "0 for the first one", "NONE if there are not so many queued acts." */
    private static void queuedActs() {
        BackgroundRebuild x = quiet(0, 499, 5);
        Checks.due("no rebuild", x.queued(0), NONE);
        x.set(2, 1);
        x.begin();
        Checks.due("an empty queue", x.queued(0), NONE);
        x.remove(499);
        Checks.due("one", x.queued(0) + " " + x.queued(1) + " " + x.queued(GREATEST), "999 -1 -1");
        x.remove(0);
        Checks.due("two", queueOf(x), "999 500");
        x.idle();
        x.add(0);
        Checks.due("the first is taken, another one comes", queueOf(x), "500 0");
        Checks.throwsJust("-1", ILLEGAL, () -> x.queued(-1));
        BackgroundRebuild y = low(60);
        y.set(2, 1);
        y.begin();
        removeKeys(y, 0, 30);
        Checks.due("30", y.queued(0) + " " + y.queued(29) + " " + y.queued(30), "500 529 -1");
        y.abandon();
        Checks.due("abandoned", y.queued(0), NONE);
    }

    /** count(): "0 if there was none", and what is asked: 0 to 8 */
    private static void countsAtFirst() {
        BackgroundRebuild x = new BackgroundRebuild();
        Checks.due("no act", countsOf(x), "0 0 0 0 0 0 0 0 0");
        Checks.throwsJust("what -1", ILLEGAL, () -> x.count(-1));
        Checks.throwsJust("what 9", ILLEGAL, () -> x.count(9));
    }

    /** count(): "the work of the latest act", "the greatest work of an act so far", "the work of all acts so far" */
    private static void countsOfWork() {
        BackgroundRebuild x = quiet(1, 2, 3);
        Checks.due("0, 1 and 2", countsOf(x), "2 2 3 3 0 0 0 5 0");
        x.remove(1);
        Checks.due("1", countsOf(x), "1 2 4 4 0 0 0 6 0");
        x.idle();
        Checks.due("0", countsOf(x), "0 2 4 5 0 0 0 6 0");
        x.add(4);
        Checks.due("3", countsOf(x), "3 3 7 6 0 0 0 6 0");
        x.undo();
        Checks.due("undone", countsOf(x), "0 2 4 5 0 0 0 5 0");
        x.set(2, 8);
        x.begin();
        Checks.due("these are no acts", countsOf(x), "0 2 4 5 1 0 0 6 0");
    }

    /** count(): "rebuilds that were begun", "exchanges", "rebuilds that were abandoned" */
    private static void countsOfRebuilds() {
        BackgroundRebuild x = quiet(1, 2, 3, 4);
        x.begin();
        Checks.due("begun", answers(3, n -> x.count(4 + n)), "1 0 0");
        x.abandon();
        Checks.due("abandoned", answers(3, n -> x.count(4 + n)), "1 0 1");
        x.set(1, 3);
        x.idle();
        Checks.due("begun by an act", answers(3, n -> x.count(4 + n)), "2 0 1");
        idle(x, 2);
        Checks.due("exchanged", answers(3, n -> x.count(4 + n)) + " " + x.rebuild(0), "2 1 1 0");
    }

    /** count(): "the number of saved states", "the length of the buffer" */
    private static void countsOfStatesAndCharacters() {
        BackgroundRebuild x = new BackgroundRebuild();
        for (int i = 1; i <= 8; i++) {
            x.idle();
            Checks.due("saved states", x.count(7), Math.min(i, 6));
        }
        for (int i = 1; i <= 60; i++) {
            x.append(33);
            Checks.due("characters", x.count(8), i);
        }
        x.clearBuffer();
        Checks.due("cleared", x.count(7) + " " + x.count(8), "6 0");
    }

    /** setting(): "0 to 2" */
    private static void settings() {
        BackgroundRebuild x = new BackgroundRebuild();
        Checks.due("0 to 2", x.setting(0) + " " + x.setting(1) + " " + x.setting(2), "50 10 2");
        Checks.throwsJust("-1", BOUNDS, () -> x.setting(-1));
        Checks.throwsJust("3", BOUNDS, () -> x.setting(3));
    }

    // ---- promises 26 to 29

    private static String callsOf(BackgroundRebuild x) {
        return answers(8, n -> x.untilExchange(n + 1));
    }

    private static String worksOf(BackgroundRebuild x) {
        return answers(8, n -> x.longest(n + 1));
    }

    /** untilExchange(): "the number of calls, with the one in which the exchange takes place" */
    private static void callsUntilTheExchange() {
        BackgroundRebuild x = new BackgroundRebuild();
        x.begin();
        Checks.due("no step is needed, but one is made", callsOf(x), "1 1 1 1 1 1 1 1");
        for (int keys = 1; keys <= 120; keys += 7) {
            BackgroundRebuild y = low(keys);
            y.begin();
            for (int speed = 1; speed <= 8; speed++) {
                Checks.due(keys + " keys at speed " + speed, y.untilExchange(speed), (keys + speed - 1) / speed);
            }
        }
        BackgroundRebuild z = low(8);
        z.set(2, 1);
        z.begin();
        z.add(300);
        Checks.due("seven copies and one act", callsOf(z), "8 4 3 2 2 2 2 1");
        z.add(301);
        z.add(302);
        Checks.due("five copies and three acts", callsOf(z), "8 4 3 2 2 2 2 1");
        int calls = z.untilExchange(1);
        idle(z, calls - 1);
        Checks.due("one is left", callsOf(z) + "|" + z.rebuild(0), "1 1 1 1 1 1 1 1|2");
        z.idle();
        Checks.due("the exchange", z.rebuild(0) + " " + z.count(5), "0 1");
    }

    /** untilExchange() and longest(): "NONE if no rebuild is running.", "1 to 8" */
    private static void noCallsUntilTheExchange() {
        BackgroundRebuild x = quiet(1, 2, 3);
        Checks.due("none was begun", callsOf(x) + "|" + worksOf(x), "-1 -1 -1 -1 -1 -1 -1 -1|-1 -1 -1 -1 -1 -1 -1 -1");
        x.begin();
        x.abandon();
        Checks.due("abandoned", x.untilExchange(1) + " " + x.longest(8), "-1 -1");
        Checks.throwsJust("0", ILLEGAL, () -> x.untilExchange(0));
        Checks.throwsJust("9", ILLEGAL, () -> x.untilExchange(9));
        Checks.throwsJust("0", ILLEGAL, () -> x.longest(0));
        Checks.throwsJust("9", ILLEGAL, () -> x.longest(9));
        x.begin();
        Checks.throwsJust("0 while one is running", ILLEGAL, () -> x.longest(0));
        Checks.throwsJust("9 while one is running", ILLEGAL, () -> x.untilExchange(9));
    }

    /** longest(): "the greatest work of one of the calls that untilExchange() counts" */
    private static void longestCalls() {
        BackgroundRebuild x = new BackgroundRebuild();
        x.begin();
        Checks.due("one call without work", worksOf(x), "0 0 0 0 0 0 0 0");
        BackgroundRebuild y = low(7);
        y.begin();
        Checks.due("seven copies", worksOf(y), "1 2 3 4 5 6 7 7");
        BackgroundRebuild w = quiet(2, 1, 3);
        w.set(2, 1);
        w.begin();
        w.add(4);
        w.remove(2);
        w.add(5);
        // The steps that are left: 4 visits 2 and 3, -2 visits 2, 5 visits 2, 3 and 4.
        Checks.due("works of 2, 1 and 3", queueOf(w) + "|" + worksOf(w), "4 502 5|3 3 6 6 6 6 6 6");
        Checks.due("as foretold", w.idle() + " " + w.idle() + " " + w.idle() + " " + w.rebuild(0), "2 1 3 0");
    }

    /** leastSpeed(): "within some calls of idle()", "1 to 8" */
    private static void leastSpeeds() {
        for (int keys = 1; keys <= 8; keys++) {
            BackgroundRebuild x = low(keys);
            x.begin();
            Checks.due("one call for " + keys, x.leastSpeed(1), keys);
            Checks.due("as many calls as keys", x.leastSpeed(keys), 1);
            Checks.due("one call less", keys == 1 ? 2 : x.leastSpeed(keys - 1), 2);
        }
        BackgroundRebuild y = full();
        y.begin();
        Checks.due("120 keys", y.leastSpeed(15) + " " + y.leastSpeed(60) + " " + y.leastSpeed(119) + " " + y.leastSpeed(120), "8 2 2 1");
        Checks.due("many calls", y.leastSpeed(121) + " " + y.leastSpeed(GREATEST), "1 1");
        BackgroundRebuild z = new BackgroundRebuild();
        z.begin();
        Checks.due("an empty list", z.leastSpeed(1), 1);
    }

    /** leastSpeed(): "NONE if there is none, or no rebuild is running.", "if calls is less than 1" */
    private static void noLeastSpeed() {
        BackgroundRebuild x = low(9);
        Checks.due("none is running", x.leastSpeed(1) + " " + x.leastSpeed(GREATEST), "-1 -1");
        Checks.throwsJust("0", ILLEGAL, () -> x.leastSpeed(0));
        x.begin();
        Checks.due("nine steps in one call", x.leastSpeed(1) + " " + x.leastSpeed(2), "-1 5");
        Checks.throwsJust("0 while one is running", ILLEGAL, () -> x.leastSpeed(0));
        BackgroundRebuild y = full();
        y.begin();
        Checks.due("120 steps in 14 calls", y.leastSpeed(14), NONE);
    }

    /** meanDepth(): "0.0 if there are none." */
    private static void meanDepths() {
        BackgroundRebuild x = quiet();
        Checks.due("no nodes", x.meanDepth(), 0.0);
        x.add(5);
        Checks.due("the root", x.meanDepth(), 1.0);
        x.add(6);
        Checks.due("two nodes", x.meanDepth(), 1.5);
        x.add(7);
        x.add(3);
        x.remove(7);
        Checks.due("three of four nodes", x.meanDepth(), 5.0 / 3.0);
        x.remove(3);
        x.remove(5);
        Checks.due("one of four nodes", x.meanDepth(), 2.0);
        x.remove(6);
        Checks.due("only marked nodes", x.meanDepth() + " " + x.tree(false, 0), "0.0 4");
    }
}
