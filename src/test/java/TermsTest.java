import java.util.ArrayList;
import java.util.List;

/** The sentences of "Terms" that name a boundary case, up to the acts and the settings: a test each, under its sentence. */
public final class TermsTest extends Scenes {
    public static void main(String[] args) {
        call512();
        fewestNodes();
        mostNodes();
        mostNodesOfTheSecondTree();
        deepestTree();
        leastAndGreatestKey();
        keysOnBothSides();
        depths();
        visitedNodes();
        addedKeys();
        removedKeys();
        listOfPresentKeys();
        orderOfFewKeys();
        orderOfEachNumberOfKeys();
        secondTreeAndQueueAtTheBeginning();
        copiesComeFirst();
        exchangeWithTheLastCopy();
        exchangeWithTheLastQueuedAct();
        exchangeWithNothingToDo();
        markedNodesInTheExchange();
        workOfSteps();
        actsThatAreQueued();
        thirtyQueuedActs();
        theThirtyFirstAct();
        queueIsFullBeforeTheSteps();
        queueHasRoomAgain();
        stepsOfEachSpeed();
        stepsUntilItIsFinished();
        percentIsReached();
        depthIsReached();
        noNodes();
        whileARebuildIsRunning();
        actsAloneBeginRebuilds();
        thresholdsAfterAnExchange();
        thresholdsAfterAnAbandonedRebuild();
        workOfAnAct();
        firstSettings();
        Checks.end("TermsTest");
    }

    /** "An object is used for at most 512 calls after it has been made" */
    private static void call512() {
        BackgroundRebuild x = new BackgroundRebuild();
        idle(x, 511);
        Checks.due("call 512", x.count(3), 511);
        BackgroundRebuild y = quiet();
        for (int call = 3; call < 512; call++) {
            y.add(call * 77 % 120);
        }
        Checks.due("call 512 of acts with keys", y.tree(false, 1), 120);
    }

    // ---- "Tree"

    /** "The depth of a tree is the greatest depth of a node, 0 without nodes." */
    private static void fewestNodes() {
        BackgroundRebuild x = new BackgroundRebuild();
        Checks.due("no nodes", treeOf(x, false), "0 0 0 0 0 0 0");
        Checks.due("no node", x.node(false, 0, 0), NONE);
        x.add(5);
        Checks.due("one node", treeOf(x, false), "1 1 0 1 1 1 1");
        x.remove(5);
        Checks.due("one marked node", treeOf(x, false), "1 0 1 1 1 1 0");
    }

    /** "A tree consists of at most 120 nodes." */
    private static void mostNodes() {
        BackgroundRebuild x = low(119);
        Checks.due("119 nodes", x.tree(false, 0), 119);
        Checks.due("the last node", x.add(119), 1);
        Checks.due("120 nodes", x.tree(false, 0), 120);
        Checks.throwsJust("one node more", STATE, () -> x.add(120));
        Checks.due("still 120 nodes", x.tree(false, 0), 120);
        x.remove(400);
        Checks.due("a removal makes no node", x.tree(false, 0), 120);
        x.remove(0);
        Checks.due("a marked node is a node", x.tree(false, 0), 120);
        Checks.throwsJust("a marked node takes room", STATE, () -> x.add(120));
        Checks.due("a marked key needs no room", x.add(0), 1);
    }

    /** "A tree consists of at most 120 nodes." */
    private static void mostNodesOfTheSecondTree() {
        BackgroundRebuild x = full();
        x.set(2, 1);
        Checks.due("all are listed", x.begin(), 120);
        x.remove(119);
        idle(x, 118);
        Checks.due("one is left", treeOf(x, true) + "|" + rebuildOf(x), "119 119 0 7 713 57 7|1 120 119 1 118 2");
        x.idle();
        Checks.due("120 nodes", treeOf(x, true) + "|" + rebuildOf(x), "120 120 0 7 720 57 7|2 120 120 1 -1 1");
        x.add(119);
        Checks.due("one act is taken", treeOf(x, true) + "|" + rebuildOf(x), "120 119 1 7 720 57 7|2 120 120 1 -1 1");
        x.idle();
        Checks.due("exchanged", treeOf(x, false) + "|" + rebuildOf(x), "120 120 0 7 720 57 7|0 0 0 0 -1 0");
    }

    /** "A tree consists of at most 120 nodes.", each the child of the one before it */
    private static void deepestTree() {
        BackgroundRebuild x = quiet();
        x.set(2, 1);
        for (int key = 0; key < 120; key++) {
            x.add(key);
        }
        Checks.due("120 levels", treeOf(x, false), "120 120 0 120 7260 1 7");
        Checks.due("the last node", x.node(false, 119, 2) + " " + x.node(false, 119, 3), "120 1");
        Checks.due("the first node", x.node(false, 0, 3) + " " + x.node(false, 0, 4), "120 120");
        Checks.due("a path of 120 nodes", x.path(499, 119) + " " + x.path(499, 120) + " " + x.path(118, 119), "119 -1 -1");
        Checks.due("mean depth", x.meanDepth(), 60.5);
        Checks.due("rebuilds that never come to an end", countsOf(x), "120 120 7217 120 3 0 2 6 0");
        Checks.due("the third one", rebuildOf(x), "1 103 17 17 " + x.rebuild(4) + " 103");
        x.remove(200);
        Checks.due("120 visited nodes and a step", x.count(0), 121);
    }

    /** "A node has a key from 0 to 499" */
    private static void leastAndGreatestKey() {
        BackgroundRebuild x = quiet(0, 499);
        Checks.due("both are present", x.contains(0) && x.contains(499), true);
        Checks.due("both are removed", x.remove(0) + x.remove(499), 2);
        Checks.due("both are absent", x.contains(0) || x.contains(499), false);
        Checks.due("their nodes", keysOf(x, false), "0* 499*");
        Checks.throwsJust("below the least", ILLEGAL, () -> x.add(-1));
        Checks.throwsJust("above the greatest", ILLEGAL, () -> x.add(500));
        x.begin();
        x.add(499);
        Checks.due("copied and replayed", keysOf(x, false), "499");
    }

    /** "All keys in the left subtree of a node are less than its key, and all keys in the right subtree are greater." */
    private static void keysOnBothSides() {
        BackgroundRebuild x = quiet(250, 249, 251);
        Checks.due("beside the key", keysOf(x, false) + "|" + x.node(false, 0, 3), "250 249 251|3");
        Checks.due("the key itself", x.add(250), 0);
        Checks.due("no second node of it", x.tree(false, 0), 3);
    }

    /** "The depth of the root is 1, the depth of a child is the depth of its parent plus 1." */
    private static void depths() {
        BackgroundRebuild x = quiet(5);
        Checks.due("the root", x.node(false, 0, 2) + " " + x.tree(false, 3), "1 1");
        x.add(3);
        x.add(4);
        Checks.due("its descendants", x.node(false, 1, 2) + " " + x.node(false, 2, 2) + " " + x.tree(false, 3), "2 3 3");
        x.add(7);
        Checks.due("not the last node's depth", x.node(false, 3, 2) + " " + x.tree(false, 3), "2 3");
    }

    /** "The visited nodes are the nodes with which the key is compared." */
    private static void visitedNodes() {
        BackgroundRebuild x = quiet();
        x.remove(5);
        Checks.due("none in an empty tree", x.count(0) + "|" + pathOf(x, 5), "0|");
        x.add(5);
        Checks.due("the new root is not one", x.count(0), 0);
        x.add(9);
        Checks.due("a new child is not one", x.count(0), 1);
        x.remove(9);
        Checks.due("the found node is one", x.count(0) + "|" + pathOf(x, 9), "2|5 9");
        x.remove(9);
        Checks.due("a marked node is one", x.count(0), 2);
        x.remove(5);
        Checks.due("the search ends where the key is found", x.count(0) + "|" + pathOf(x, 5), "1|5");
        x.remove(8);
        Checks.due("or where there is no child", x.count(0) + "|" + pathOf(x, 8), "2|5 9");
    }

    /** "if the search finds it, its node is not marked any more; otherwise it becomes a new node, not marked" */
    private static void addedKeys() {
        BackgroundRebuild x = quiet(5, 3, 8);
        x.remove(3);
        x.add(2);
        Checks.due("a new node below a marked one", keysOf(x, false), "5 3* 2 8");
        x.add(3);
        Checks.due("marked no more", keysOf(x, false), "5 3 2 8");
        x.add(3);
        Checks.due("not marked before", keysOf(x, false), "5 3 2 8");
        x.remove(8);
        x.add(4);
        Checks.due("the marks of the other nodes stay", keysOf(x, false), "5 3 2 4 8*");
    }

    /** "To remove a key from a tree: if the search finds it, its node is marked." */
    private static void removedKeys() {
        BackgroundRebuild x = quiet(5, 3, 8);
        x.remove(4);
        Checks.due("not found", keysOf(x, false), "5 3 8");
        x.remove(5);
        Checks.due("found", keysOf(x, false), "5* 3 8");
        x.remove(5);
        Checks.due("marked already", keysOf(x, false), "5* 3 8");
    }

    // ---- "Rebuild"

    /** "the list of the rebuild is the list of all present keys" */
    private static void listOfPresentKeys() {
        BackgroundRebuild x = quiet(5, 3, 8, 1);
        x.remove(5);
        x.remove(1);
        x.begin();
        Checks.due("no marked ones", rebuildOf(x), "1 2 0 0 8 2");
        idle(x, 1);
        Checks.due("none of them is copied", keysOf(x, false), "8 3");
        x.remove(8);
        x.remove(3);
        Checks.due("no present key", x.begin() + " " + rebuildOf(x), "0 2 0 0 0 -1 0");
        BackgroundRebuild y = quiet(0);
        y.begin();
        Whole.undo(y, 2);
        y.add(499);
        Checks.due("no key that was present once", y.begin() + " " + y.rebuild(4), "1 499");
    }

    private static String orderOf(BackgroundRebuild x) {
        StringBuilder order = new StringBuilder();
        x.set(2, 1);
        x.begin();
        int keys = x.rebuild(1);
        for (int i = 0; i < keys; i++) {
            order.append(i == 0 ? "" : " ").append(x.rebuild(4));
            x.idle();
        }
        return order.toString();
    }

    /** "the key with the index n / 2 (rounded down) of all n keys in ascending order comes first" */
    private static void orderOfFewKeys() {
        String[] due = {"", "0", "1 0", "1 0 2", "2 1 0 3", "2 1 0 4 3", "3 1 0 2 5 4", "3 1 0 2 5 4 6", "4 2 1 0 3 6 5 7"};
        for (int keys = 0; keys < due.length; keys++) {
            Checks.due("order of " + keys, orderOf(low(keys)), due[keys]);
        }
    }

    private static List<Integer> middleFirst(int from, int to) {
        List<Integer> order = new ArrayList<>();
        if (from < to) {
            int middle = from + (to - from) / 2;
            order.add(middle);
            order.addAll(middleFirst(from, middle));
            order.addAll(middleFirst(middle + 1, to));
        }
        return order;
    }

    /** "then all keys less than it, in the order that is found in the same way, then all keys greater than it, likewise" */
    private static void orderOfEachNumberOfKeys() {
        for (int keys = 0; keys <= 120; keys++) {
            String due = middleFirst(0, keys).toString().replaceAll("[\\[\\],]", "");
            Checks.due("order of " + keys, orderOf(low(keys)), due);
        }
    }

    /** "The second tree is empty, and no act is queued." */
    private static void secondTreeAndQueueAtTheBeginning() {
        BackgroundRebuild x = quiet(1, 2, 3, 4, 5, 6);
        x.begin();
        x.remove(1);
        x.remove(2);
        Checks.due("before", keysOf(x, true) + "|" + queueOf(x), "4 2 1 3|501 502");
        x.abandon();
        x.begin();
        Checks.due("after abandon()", keysOf(x, true) + "|" + queueOf(x) + "|" + rebuildOf(x), "||1 4 0 0 5 4");
        x.add(1);
        x.set(2, 8);
        x.idle();
        x.begin();
        Checks.due("after an exchange", keysOf(x, true) + "|" + queueOf(x) + "|" + rebuildOf(x), "||1 5 0 0 4 5");
    }

    /** "if there are keys of the list left to be copied, the next one is added ... Otherwise, if an act is queued" */
    private static void copiesComeFirst() {
        BackgroundRebuild x = quiet(1, 2, 3);
        x.set(2, 1);
        x.begin();
        x.remove(1);
        x.remove(3);
        Checks.due("one key is left", keysOf(x, true) + "|" + queueOf(x), "2 1|501 503");
        x.idle();
        Checks.due("it comes first", keysOf(x, true) + "|" + queueOf(x), "2 1 3|501 503");
        x.idle();
        Checks.due("then the first act", keysOf(x, true) + "|" + queueOf(x), "2 1* 3|503");
        x.idle();
        Checks.due("then the last act", keysOf(x, false) + "|" + queueOf(x), "2 1* 3*|");
    }

    /** "Then, if no key is left to be copied, and no act is queued, the exchange takes place" */
    private static void exchangeWithTheLastCopy() {
        BackgroundRebuild x = quiet(1, 2, 3);
        x.set(2, 1);
        x.begin();
        idle(x, 2);
        Checks.due("one key is left", rebuildOf(x) + "|" + x.count(5), "1 3 2 0 3 1|0");
        x.idle();
        Checks.due("none is left", rebuildOf(x) + "|" + x.count(5), "0 0 0 0 -1 0|1");
        Checks.due("both trees", keysOf(x, false) + "|" + keysOf(x, true), "2 1 3|");
    }

    /** "Then, if no key is left to be copied, and no act is queued, the exchange takes place" */
    private static void exchangeWithTheLastQueuedAct() {
        BackgroundRebuild x = quiet(1, 2);
        x.set(2, 1);
        x.begin();
        x.add(3);
        x.add(4);
        Checks.due("all are copied, two acts wait", rebuildOf(x) + "|" + x.count(5), "2 2 2 2 -1 2|0");
        x.idle();
        Checks.due("one act waits", rebuildOf(x) + "|" + x.count(5), "2 2 2 1 -1 1|0");
        x.idle();
        Checks.due("none waits", rebuildOf(x) + "|" + x.count(5), "0 0 0 0 -1 0|1");
        Checks.due("both trees", keysOf(x, false) + "|" + keysOf(x, true), "2 1 3 4|");
    }

    /** The exchange where the list is empty and no act is queued: it takes a step, too. */
    private static void exchangeWithNothingToDo() {
        BackgroundRebuild x = new BackgroundRebuild();
        x.begin();
        Checks.due("not at the beginning", rebuildOf(x) + "|" + x.count(5), "2 0 0 0 -1 0|0");
        Checks.due("work of the step", x.idle(), 0);
        Checks.due("with the step", rebuildOf(x) + "|" + x.count(5), "0 0 0 0 -1 0|1");
        BackgroundRebuild y = quiet(5);
        y.remove(5);
        y.begin();
        y.remove(5);
        Checks.due("a tree of marked nodes", treeOf(y, false) + "|" + y.count(5), "0 0 0 0 0 0 0|1");
        BackgroundRebuild z = new BackgroundRebuild();
        z.begin();
        z.add(7);
        Checks.due("an act into two empty trees", keysOf(z, false) + "|" + rebuildOf(z) + "|" + countsOf(z), "7|0 0 0 0 -1 0|0 0 0 1 1 1 0 2 0");
    }

    /** "the second tree becomes the tree", with its marked nodes */
    private static void markedNodesInTheExchange() {
        BackgroundRebuild x = quiet(1, 2, 3);
        x.remove(1);
        x.begin();
        x.remove(2);
        Checks.due("before the exchange", keysOf(x, false) + "|" + keysOf(x, true), "1* 2* 3|3 2");
        x.idle();
        Checks.due("behind it", keysOf(x, false) + "|" + treeOf(x, false), "3 2*|2 1 1 2 3 1 1");
    }

    /** "The work of a step is 1 if a key is copied, the number of visited nodes ... if a queued act is executed, otherwise 0." */
    private static void workOfSteps() {
        BackgroundRebuild x = quiet(1, 2, 3);
        x.set(2, 1);
        x.begin();
        x.add(4);
        x.remove(2);
        x.add(2);
        Checks.due("copies below other nodes", queueOf(x) + "|" + keysOf(x, true) + "|" + x.count(0), "4 502 2|2 1 3|3");
        Checks.due("a new node below 2 and 3", x.idle(), 2);
        Checks.due("the root is found", x.idle(), 1);
        Checks.due("and found again, though it is marked", x.idle(), 1);
        BackgroundRebuild y = new BackgroundRebuild();
        y.set(2, 1);
        y.begin();
        y.add(9);
        Checks.due("no visited node in an empty second tree", y.count(0) + " " + y.count(5), "0 1");
        y.begin();
        y.idle();
        Checks.due("one copy", y.count(0), 1);
    }

    // ---- "Acts"

    /** "If a rebuild is running, and the key became present or ceased to be present in part 1, the act is queued." */
    private static void actsThatAreQueued() {
        BackgroundRebuild x = low(40);
        x.remove(7);
        Checks.due("no rebuild", queueOf(x), "");
        x.set(2, 1);
        x.begin();
        x.add(5);
        x.remove(7);
        x.remove(300);
        x.idle();
        Checks.due("nothing became or ceased", queueOf(x), "");
        x.add(7);
        x.add(300);
        x.remove(5);
        x.remove(300);
        Checks.due("each that did", queueOf(x), "7 300 505 800");
        Checks.due("also those of keys that are not copied yet", x.rebuild(2), 8);
    }

    /** "If 30 acts are queued already": 30 of them are queued. */
    private static void thirtyQueuedActs() {
        BackgroundRebuild x = low(60);
        x.set(2, 1);
        x.begin();
        removeKeys(x, 0, 29);
        Checks.due("29", x.rebuild(3) + " " + x.queued(28) + " " + x.queued(29), "29 528 -1");
        x.add(0);
        Checks.due("30", x.rebuild(3) + " " + x.queued(29) + " " + x.queued(30), "30 0 -1");
        x.add(0);
        x.remove(1);
        x.remove(400);
        x.idle();
        Checks.due("acts that are not to be queued", rebuildOf(x).substring(0, 9) + "|" + x.count(6), "1 60 34 3|0");
        idle(x, 26);
        Checks.due("all are copied", x.rebuild(0) + " " + x.rebuild(3), "2 30");
        idle(x, 29);
        Checks.due("29 are replayed", x.rebuild(0) + " " + x.rebuild(3) + " " + queueOf(x), "2 1 0");
        x.idle();
        Checks.due("30 are replayed", x.rebuild(0) + " " + x.tree(false, 2) + " " + x.contains(0), "0 28 true");
    }

    /** "it is not queued, and the rebuild is abandoned instead" */
    private static void theThirtyFirstAct() {
        for (int key : new int[] {300, 59}) {
            BackgroundRebuild x = low(60);
            x.set(2, 1);
            x.begin();
            removeKeys(x, 0, 30);
            int visited = pathOf(x, key).split(" ").length;
            Checks.due("31st act", key == 300 ? x.add(key) : x.remove(key), 1);
            Checks.due("abandoned", rebuildOf(x) + "|" + queueOf(x) + "|" + keysOf(x, true), "0 0 0 0 -1 0||");
            Checks.due("counted", answers(4, n -> x.count(3 + n)), "91 1 0 1");
            Checks.due("part 1 stands", x.contains(key), key == 300);
            Checks.due("no step in this act", x.count(0), visited);
        }
    }

    /** "If 30 acts are queued already" is asked in part 2, before the steps of part 3. */
    private static void queueIsFullBeforeTheSteps() {
        BackgroundRebuild x = low(40);
        x.set(2, 1);
        x.begin();
        removeKeys(x, 0, 30);
        idle(x, 10);
        Checks.due("all are copied, 30 acts wait", rebuildOf(x).substring(0, 10), "2 40 40 30");
        x.set(2, 8);
        x.remove(39);
        Checks.due("abandoned all the same", x.rebuild(0) + " " + x.count(6) + " " + x.count(5), "0 1 0");
    }

    /** An act that is taken from the queue makes room for another one. */
    private static void queueHasRoomAgain() {
        BackgroundRebuild x = low(40);
        x.set(2, 1);
        x.begin();
        removeKeys(x, 0, 30);
        idle(x, 11);
        Checks.due("29 acts wait", x.rebuild(3) + " " + x.queued(0), "29 501");
        x.remove(39);
        Checks.due("one is queued, one is taken", x.rebuild(3) + " " + x.queued(0) + " " + x.queued(28) + " " + x.count(6), "29 502 539 0");
    }

    /** "If a rebuild is running, as many steps of it as setting 2 are made" */
    private static void stepsOfEachSpeed() {
        for (int speed = 1; speed <= 8; speed++) {
            BackgroundRebuild x = low(20);
            x.set(2, speed);
            x.begin();
            Checks.due("work at speed " + speed, x.idle(), speed);
            Checks.due("copies at speed " + speed, x.rebuild(2), speed);
        }
    }

    /** "one after the other, until it is finished" */
    private static void stepsUntilItIsFinished() {
        for (int keys = 0; keys <= 9; keys++) {
            BackgroundRebuild x = low(keys);
            x.set(2, 8);
            x.begin();
            Checks.due("work of " + keys, x.idle(), keys < 9 ? keys : 8);
            Checks.due("finished with " + keys, x.rebuild(0) + " " + x.count(5) + " " + x.tree(false, 0), (keys < 9 ? "0 1 " : "1 0 ") + keys);
        }
    }

    private static String afterRemovals(int percent, int keys, int removals) {
        BackgroundRebuild x = low(keys);
        x.set(0, percent);
        removeKeys(x, 0, removals);
        return x.tree(false, 2) + " " + x.rebuild(0) + " " + x.rebuild(1) + " " + x.count(4);
    }

    /** "100 times the number of marked nodes is greater than setting 0 times the number of nodes" */
    private static void percentIsReached() {
        Checks.due("10 percent of 10", afterRemovals(10, 10, 1), "1 0 0 0");
        Checks.due("more than 10 percent of 10", afterRemovals(10, 10, 2), "2 1 8 1");
        Checks.due("more than 10 percent of 9", afterRemovals(10, 9, 1), "1 1 8 1");
        Checks.due("10 percent of 120", afterRemovals(10, 120, 12), "12 0 0 0");
        Checks.due("more than 10 percent of 120", afterRemovals(10, 120, 13), "13 1 107 1");
        Checks.due("50 percent of 2", afterRemovals(50, 2, 1), "1 0 0 0");
        Checks.due("more than 50 percent of 3", afterRemovals(50, 3, 2), "2 1 1 1");
        Checks.due("more than 50 percent of 1", afterRemovals(50, 1, 1), "1 2 0 1");
        Checks.due("33 percent of 3", afterRemovals(33, 3, 1), "1 1 2 1");
        Checks.due("34 percent of 3", afterRemovals(34, 3, 1), "1 0 0 0");
        Checks.due("99 percent of 119 of 120", afterRemovals(99, 120, 119), "119 1 1 1");
        Checks.due("99 percent of 99 of 100", afterRemovals(99, 100, 99), "99 0 0 0");
        Checks.due("100 percent of 120", afterRemovals(100, 120, 120), "120 0 0 0");
    }

    private static String afterChain(int depth, int keys) {
        BackgroundRebuild x = quiet();
        x.set(1, depth);
        for (int key = 0; key < keys; key++) {
            x.add(key);
        }
        return x.tree(false, 3) + " " + x.rebuild(0) + " " + x.rebuild(1) + " " + x.count(4);
    }

    /** "the depth of the tree is greater than setting 1, a rebuild begins" */
    private static void depthIsReached() {
        Checks.due("depth 3 of 3", afterChain(3, 3), "3 0 0 0");
        Checks.due("depth 4 of 3", afterChain(3, 4), "4 1 4 1");
        Checks.due("depth 10 of 10", afterChain(10, 10), "10 0 0 0");
        Checks.due("depth 11 of 10", afterChain(10, 11), "11 1 11 1");
        Checks.due("depth 40 of 40", afterChain(40, 40), "40 0 0 0");
        Checks.due("depth 41 of 40", afterChain(40, 41), "41 1 41 1");
        BackgroundRebuild x = quiet(1, 2, 3, 4);
        removeKeys(x, 1, 5);
        x.set(1, 3);
        x.idle();
        Checks.due("marked nodes have depths, too", x.rebuild(0) + " " + x.rebuild(1), "2 0");
    }

    /** Both thresholds of a tree without nodes: neither is exceeded. */
    private static void noNodes() {
        BackgroundRebuild x = new BackgroundRebuild();
        x.set(0, 10);
        x.set(1, 3);
        x.idle();
        x.remove(5);
        Checks.due("no rebuild", rebuildOf(x) + "|" + x.count(4), "0 0 0 0 -1 0|0");
    }

    /** "If no rebuild is running, and ...": one that is running goes on. */
    private static void whileARebuildIsRunning() {
        BackgroundRebuild x = low(20);
        x.set(0, 10);
        x.set(1, 3);
        x.set(2, 1);
        x.begin();
        x.remove(0);
        x.remove(1);
        x.remove(2);
        Checks.due("above both thresholds", x.tree(false, 2) + " " + (x.tree(false, 3) > 3), "3 true");
        Checks.due("it goes on", rebuildOf(x).substring(0, 8) + "|" + x.count(4), "1 20 3 3|1");
    }

    /** "This is not an act." of begin(), abandon() and set(): part 4 is left out; undo() and goBack() are no acts, either. */
    private static void actsAloneBeginRebuilds() {
        BackgroundRebuild x = quiet(1, 2, 3, 4);
        x.begin();
        x.set(1, 3);
        x.abandon();
        x.keep(0);
        x.set(2, 3);
        x.undo();
        x.goBack(0);
        x.clearBuffer();
        Checks.due("none of them", x.rebuild(0) + " " + x.count(3) + " " + x.count(4), "0 4 1");
        x.remove(300);
        Checks.due("but an act in which nothing changes", x.rebuild(0) + " " + x.count(3) + " " + x.count(4), "1 5 2");
    }

    /** Part 4 behind an exchange in part 3: it looks at the new tree, and no step of the new rebuild is made. */
    private static void thresholdsAfterAnExchange() {
        BackgroundRebuild x = low(7);
        x.set(1, 3);
        x.set(2, 8);
        x.begin();
        x.idle();
        Checks.due("depth 3 is low enough", x.tree(false, 3) + " " + x.rebuild(0) + " " + x.count(4), "3 0 1");
        BackgroundRebuild y = low(8);
        y.set(1, 3);
        y.set(2, 8);
        y.begin();
        Checks.due("eight copies", y.idle(), 8);
        Checks.due("depth 4 is not", y.tree(false, 3) + " " + rebuildOf(y) + "|" + y.count(4) + " " + y.count(5), "4 1 8 0 0 4 8|2 1");
    }

    /** Part 4 behind part 2: where a rebuild is abandoned, another one can begin in the same act, without a step. */
    private static void thresholdsAfterAnAbandonedRebuild() {
        BackgroundRebuild x = low(60);
        x.set(2, 1);
        x.begin();
        removeKeys(x, 0, 30);
        x.set(0, 50);
        x.remove(30);
        Checks.due("31 of 60 are marked", rebuildOf(x) + "|" + answers(3, n -> x.count(4 + n)), "1 29 0 0 45 29|2 0 1");
    }

    /** "The work of an act is the number of visited nodes of the tree in part 1 plus the work of the steps in part 3." */
    private static void workOfAnAct() {
        BackgroundRebuild x = quiet(1, 2, 3);
        x.begin();
        x.remove(3);
        Checks.due("three visited nodes and two copies", x.count(0), 5);
        x.add(0);
        Checks.due("one visited node, a copy, and two nodes of the second tree", x.count(0), 4);
        Checks.due("two nodes of the second tree", x.idle() + " " + x.count(5), "2 1");
        x.begin();
        Checks.due("begin() is no act", countsOf(x), "2 5 14 6 2 1 0 6 0");
    }

    // ---- "Settings"

    /** "0: percent, 10 to 100, at first 50; 1: depth, 3 to 40, at first 10; 2: speed, 1 to 8, at first 2." */
    private static void firstSettings() {
        Checks.due("at first", settingsOf(new BackgroundRebuild()), "50 10 2");
        int[] least = {10, 3, 1};
        int[] greatest = {100, 40, 8};
        for (int i = 0; i < 3; i++) {
            BackgroundRebuild x = new BackgroundRebuild();
            int setting = i;
            x.set(setting, least[i]);
            Checks.due("least of " + i, x.setting(i), least[i]);
            x.set(setting, greatest[i]);
            Checks.due("greatest of " + i, x.setting(i), greatest[i]);
            Checks.throwsJust("less than the least of " + i, ILLEGAL, () -> x.set(setting, least[setting] - 1));
            Checks.throwsJust("more than the greatest of " + i, ILLEGAL, () -> x.set(setting, greatest[setting] + 1));
            Checks.due("the others stay", settingsOf(x).split(" ")[(i + 1) % 3], new String[] {"50", "10", "2"}[(i + 1) % 3]);
        }
    }
}
