/** A search tree that is rebuilt in the background, as ../shared/DOC.md describes it. */
public final class BackgroundRebuild {
    public static final int NONE = -1;

    private static final int KEY_BOUND = 500;
    private static final int MOST_NODES = 120;
    private static final int MOST_QUEUED = 30;
    private static final int MOST_CHARACTERS = 60;
    private static final int MOST_SAVED = 6;
    private static final int SLOTS = 2;

    private static final int PERCENT = 0;
    private static final int DEPTH = 1;
    private static final int SPEED = 2;
    private static final int SETTINGS = 3;
    private static final int[] FIRST_VALUES = {50, 10, 2};
    private static final int[] LEAST_VALUES = {10, 3, 1};
    private static final int[] GREATEST_VALUES = {100, 40, 8};
    private static final int GREATEST_SPEED = 8;

    private static final int LATEST_WORK = 0;
    private static final int GREATEST_WORK = 1;
    private static final int ALL_WORK = 2;
    private static final int ACTS = 3;
    private static final int BEGUN = 4;
    private static final int EXCHANGED = 5;
    private static final int ABANDONED = 6;
    private static final int STATE_COUNTS = 7;

    // An act is written as queued() tells it: the key that is added, or
    // KEY_BOUND plus the key that is removed; and this for an act without a key.
    private static final int IDLE = -1;

    private final State state = new State();
    private final State[] saved = new State[MOST_SAVED];
    private int savedStates;
    private final State[] snapshots = new State[SLOTS];
    private final boolean[] slotFilled = new boolean[SLOTS];
    private final ActText text = new ActText();

    // Rows that are used again by each call, so that no call makes new ones.
    private final int[] readActs = new int[MOST_CHARACTERS];
    private final boolean[] presence = new boolean[KEY_BOUND];
    private final Rebuild trial = new Rebuild();

    public BackgroundRebuild() {
        for (int i = 0; i < MOST_SAVED; i++) {
            saved[i] = new State();
        }
        for (int i = 0; i < SLOTS; i++) {
            snapshots[i] = new State();
        }
    }

    // ---- acts

    public int add(int key) throws IllegalArgumentException, IllegalStateException {
        checkKey(key);
        if (hasNoRoomFor(key)) {
            throw new IllegalStateException("the tree is full");
        }
        saveState();
        return perform(key) ? 1 : 0;
    }

    public int remove(int key) throws IllegalArgumentException {
        checkKey(key);
        saveState();
        return perform(key + KEY_BOUND) ? 1 : 0;
    }

    public int idle() {
        saveState();
        perform(IDLE);
        return state.counts[LATEST_WORK];
    }

    // ---- rebuild

    public int begin() throws IllegalStateException {
        if (state.job.running) {
            throw new IllegalStateException("a rebuild is running");
        }
        saveState();
        beginJob();
        return state.job.listed;
    }

    public int abandon() throws IllegalStateException {
        if (!state.job.running) {
            throw new IllegalStateException("no rebuild is running");
        }
        saveState();
        int copied = state.job.copied;
        abandonJob();
        return copied;
    }

    public int set(int setting, int value) throws IndexOutOfBoundsException, IllegalArgumentException {
        checkSetting(setting);
        if (value < LEAST_VALUES[setting] || value > GREATEST_VALUES[setting]) {
            throw new IllegalArgumentException("the value is out of range");
        }
        saveState();
        int previous = state.settings[setting];
        state.settings[setting] = value;
        return previous;
    }

    // ---- act text

    public int append(int code) throws IllegalArgumentException, IllegalStateException {
        if (code < 33 || code > 126) {
            throw new IllegalArgumentException("the code is not 33 to 126");
        }
        if (text.length >= MOST_CHARACTERS) {
            throw new IllegalStateException("the buffer is full");
        }
        text.put(code);
        return text.length;
    }

    public int clearBuffer() {
        int length = text.length;
        text.length = 0;
        return length;
    }

    public int firstError() {
        return text.errorIndex();
    }

    public int execute() throws IllegalArgumentException {
        int acts = text.readInto(readActs);
        if (acts == NONE) {
            throw new IllegalArgumentException("the buffer is not a complete act text");
        }
        saveState();
        text.length = 0;
        for (int i = 0; i < acts; i++) {
            if (wouldThrow(readActs[i])) {
                return i;
            }
            perform(readActs[i]);
        }
        return acts;
    }

    // ---- undo and snapshots

    public int undo() throws IllegalStateException {
        if (savedStates == 0) {
            throw new IllegalStateException("no state is saved");
        }
        savedStates--;
        state.becomeCopyOf(saved[savedStates]);
        return savedStates;
    }

    public int keep(int slot) throws IllegalArgumentException {
        checkSlot(slot);
        snapshots[slot].becomeCopyOf(state);
        slotFilled[slot] = true;
        return state.firstTree.presentKeys();
    }

    public int goBack(int slot) throws IllegalArgumentException, IllegalStateException {
        checkSlot(slot);
        if (!slotFilled[slot]) {
            throw new IllegalStateException("the slot is empty");
        }
        saveState();
        state.becomeCopyOf(snapshots[slot]);
        return state.firstTree.presentKeys();
    }

    // ---- queries about the tree; nothing changes

    public boolean contains(int key) throws IllegalArgumentException {
        checkKey(key);
        return state.firstTree.hasPresent(key);
    }

    public int near(int key, int what) throws IllegalArgumentException {
        checkKey(key);
        checkWhat(what, 3);
        switch (what) {
            case 0: return state.firstTree.greatestUpTo(key);
            case 1: return state.firstTree.leastFrom(key);
            case 2: return state.firstTree.greatestUpTo(key - 1);
            default: return state.firstTree.leastFrom(key + 1);
        }
    }

    public int rank(int key) throws IllegalArgumentException {
        checkKey(key);
        return state.firstTree.presentBelow(key);
    }

    public int keyAt(int rank) throws IllegalArgumentException {
        if (rank < 0) {
            throw new IllegalArgumentException("the rank is negative");
        }
        state.firstTree.tellPresence(presence);
        int below = 0;
        for (int key = 0; key < KEY_BOUND; key++) {
            if (presence[key]) {
                if (below == rank) {
                    return key;
                }
                below++;
            }
        }
        return NONE;
    }

    public int node(boolean second, int node, int what) throws IllegalArgumentException {
        if (node < 0) {
            throw new IllegalArgumentException("the node is negative");
        }
        checkWhat(what, 4);
        Tree asked = treeFor(second);
        return node < asked.nodes ? asked.numberOfNode(node, what) : NONE;
    }

    public int path(int key, int index) throws IllegalArgumentException {
        checkKey(key);
        if (index < 0) {
            throw new IllegalArgumentException("the index is negative");
        }
        return state.firstTree.visitedKey(key, index);
    }

    public int tree(boolean second, int what) throws IllegalArgumentException {
        checkWhat(what, 6);
        Tree asked = treeFor(second);
        switch (what) {
            case 0: return asked.nodes;
            case 1: return asked.presentKeys();
            case 2: return asked.markedNodes();
            case 3: return asked.greatestDepth();
            case 4: return asked.sumOfDepths(true);
            case 5: return asked.leaves();
            default: return leastDepthFor(asked.presentKeys());
        }
    }

    // ---- queries about the rebuild; nothing changes

    public int rebuild(int what) throws IllegalArgumentException {
        checkWhat(what, 5);
        Rebuild job = state.job;
        switch (what) {
            case 0: return job.condition();
            case 1: return job.listed;
            case 2: return job.copied;
            case 3: return job.waiting;
            case 4: return job.nextKey();
            default: return job.running ? keysInJustOneTree() : 0;
        }
    }

    public int queued(int index) throws IllegalArgumentException {
        if (index < 0) {
            throw new IllegalArgumentException("the index is negative");
        }
        return index < state.job.waiting ? state.job.queue[index] : NONE;
    }

    public int count(int what) throws IllegalArgumentException {
        checkWhat(what, 8);
        if (what < STATE_COUNTS) {
            return state.counts[what];
        }
        return what == 7 ? savedStates : text.length;
    }

    public int setting(int setting) throws IndexOutOfBoundsException {
        checkSetting(setting);
        return state.settings[setting];
    }

    public int untilExchange(int speed) throws IllegalArgumentException {
        checkSpeed(speed);
        return state.job.running ? state.job.callsLeft(speed) : NONE;
    }

    public int longest(int speed) throws IllegalArgumentException {
        checkSpeed(speed);
        if (!state.job.running) {
            return NONE;
        }
        trial.becomeCopyOf(state.job);
        int steps = trial.stepsLeft();
        int work = 0;
        int greatest = 0;
        for (int step = 0; step < steps; step++) {
            if (step % speed == 0) {
                work = 0;
            }
            work += trial.takeStep();
            greatest = Math.max(greatest, work);
        }
        return greatest;
    }

    public int leastSpeed(int calls) throws IllegalArgumentException {
        if (calls < 1) {
            throw new IllegalArgumentException("the number of calls is less than 1");
        }
        if (!state.job.running) {
            return NONE;
        }
        for (int speed = 1; speed <= GREATEST_SPEED; speed++) {
            if (state.job.callsLeft(speed) <= calls) {
                return speed;
            }
        }
        return NONE;
    }

    public double meanDepth() {
        int keys = state.firstTree.presentKeys();
        if (keys == 0) {
            return 0.0;
        }
        return (double) state.firstTree.sumOfDepths(false) / (double) keys;
    }

    // ---- checks of arguments

    private static void checkKey(int key) {
        if (key < 0 || key >= KEY_BOUND) {
            throw new IllegalArgumentException("the key is not 0 to 499");
        }
    }

    private static void checkWhat(int what, int greatest) {
        if (what < 0 || what > greatest) {
            throw new IllegalArgumentException("there is no such number");
        }
    }

    private static void checkSlot(int slot) {
        if (slot < 0 || slot >= SLOTS) {
            throw new IllegalArgumentException("there is no such slot");
        }
    }

    private static void checkSpeed(int speed) {
        if (speed < 1 || speed > GREATEST_SPEED) {
            throw new IllegalArgumentException("the speed is not 1 to 8");
        }
    }

    private static void checkSetting(int setting) {
        if (setting < 0 || setting >= SETTINGS) {
            throw new IndexOutOfBoundsException("there is no such setting");
        }
    }

    // ---- the parts of an act

    private boolean hasNoRoomFor(int key) {
        return state.firstTree.nodes >= MOST_NODES && !state.firstTree.hasNode(key);
    }

    private boolean wouldThrow(int act) {
        return act != IDLE && act < KEY_BOUND && hasNoRoomFor(act);
    }

    /** Executes an act; returns whether its key became present or ceased to be present. */
    private boolean perform(int act) {
        int work = 0;
        boolean changed = false;
        if (act != IDLE) {
            work = state.firstTree.visitsFor(act);
            changed = state.firstTree.changeBy(act);
        }
        if (changed && state.job.running) {
            queueOrAbandon(act);
        }
        work += advanceJob();
        if (!state.job.running && needsRebuild()) {
            beginJob();
        }
        countAct(work);
        return changed;
    }

    private void queueOrAbandon(int act) {
        if (state.job.waiting >= MOST_QUEUED) {
            abandonJob();
        } else {
            state.job.enqueue(act);
        }
    }

    private int advanceJob() {
        int steps = state.settings[SPEED];
        int work = 0;
        for (int i = 0; i < steps && state.job.running; i++) {
            work += state.job.takeStep();
            if (state.job.isComplete()) {
                exchangeTrees();
            }
        }
        return work;
    }

    private boolean needsRebuild() {
        Tree tree = state.firstTree;
        return 100 * tree.markedNodes() > state.settings[PERCENT] * tree.nodes
                || tree.greatestDepth() > state.settings[DEPTH];
    }

    private void countAct(int work) {
        state.counts[LATEST_WORK] = work;
        state.counts[GREATEST_WORK] = Math.max(state.counts[GREATEST_WORK], work);
        state.counts[ALL_WORK] += work;
        state.counts[ACTS]++;
    }

    // ---- the course of a rebuild

    private void beginJob() {
        state.firstTree.tellPresence(presence);
        state.job.start(presence, state.firstTree.presentKeys());
        state.counts[BEGUN]++;
    }

    private void abandonJob() {
        state.job.stop();
        state.counts[ABANDONED]++;
    }

    private void exchangeTrees() {
        state.firstTree.becomeCopyOf(state.job.secondTree);
        state.job.stop();
        state.counts[EXCHANGED]++;
    }

    private int keysInJustOneTree() {
        Tree second = state.job.secondTree;
        state.firstTree.tellPresence(presence);
        int inBoth = second.presentKeysAmong(presence);
        return state.firstTree.presentKeys() + second.presentKeys() - 2 * inBoth;
    }

    private Tree treeFor(boolean second) {
        return second ? state.job.secondTree : state.firstTree;
    }

    private static int leastDepthFor(int keys) {
        int depth = 0;
        for (int room = 0; room < keys; room = 2 * room + 1) {
            depth++;
        }
        return depth;
    }

    // ---- saved states

    private void saveState() {
        if (savedStates >= MOST_SAVED) {
            dropOldestState();
        }
        saved[savedStates].becomeCopyOf(state);
        savedStates++;
    }

    private void dropOldestState() {
        State oldest = saved[0];
        for (int i = 1; i < MOST_SAVED; i++) {
            saved[i - 1] = saved[i];
        }
        // The oldest one's rows serve for the next state that is saved.
        saved[MOST_SAVED - 1] = oldest;
        savedStates = MOST_SAVED - 1;
    }

    /** All that undo() and goBack() restore. */
    private static final class State {
        final Tree firstTree = new Tree();
        final Rebuild job = new Rebuild();
        final int[] settings = FIRST_VALUES.clone();
        final int[] counts = new int[STATE_COUNTS];

        void becomeCopyOf(State other) {
            firstTree.becomeCopyOf(other.firstTree);
            job.becomeCopyOf(other.job);
            System.arraycopy(other.settings, 0, settings, 0, SETTINGS);
            System.arraycopy(other.counts, 0, counts, 0, STATE_COUNTS);
        }
    }

    /**
     * A search tree. Its rows hold the nodes in the order in which node()
     * numbers them; together with the depths this order tells the whole tree.
     */
    private static final class Tree {
        private final int[] keys = new int[MOST_NODES];
        private final int[] depths = new int[MOST_NODES];
        private final boolean[] marks = new boolean[MOST_NODES];
        int nodes;

        void becomeCopyOf(Tree other) {
            nodes = other.nodes;
            System.arraycopy(other.keys, 0, keys, 0, nodes);
            System.arraycopy(other.depths, 0, depths, 0, nodes);
            System.arraycopy(other.marks, 0, marks, 0, nodes);
        }

        /** The node that a search visits last; NONE if the tree has no nodes. */
        private int lastVisited(int key) {
            int below = -1;
            int above = KEY_BOUND;
            int last = NONE;
            for (int i = 0; i < nodes; i++) {
                int here = keys[i];
                // The first node between the bounds is the root of the subtree
                // in which the search goes on: it comes before all others of it.
                if (here > below && here < above) {
                    last = i;
                    if (here == key) {
                        return i;
                    }
                    if (key < here) {
                        above = here;
                    } else {
                        below = here;
                    }
                }
            }
            return last;
        }

        /** The node with a key, marked or not; NONE if there is none. */
        private int nodeWith(int key) {
            int last = lastVisited(key);
            return last != NONE && keys[last] == key ? last : NONE;
        }

        boolean hasNode(int key) {
            return nodeWith(key) != NONE;
        }

        boolean hasPresent(int key) {
            int found = nodeWith(key);
            return found != NONE && !marks[found];
        }

        /** How many nodes are visited when the key of an act is searched for. */
        int visitsFor(int act) {
            int last = lastVisited(act % KEY_BOUND);
            return last == NONE ? 0 : depths[last];
        }

        /** The key of the visited node with an index; NONE if there is none. */
        int visitedKey(int key, int index) {
            int last = lastVisited(key);
            if (last == NONE || index >= depths[last]) {
                return NONE;
            }
            // The visited nodes are the ancestors of the last one; each is the
            // nearest node of its depth ahead of it.
            for (int i = last; i >= 0; i--) {
                if (depths[i] == index + 1) {
                    return keys[i];
                }
            }
            return NONE;
        }

        /** Does part 1 of an act; returns whether its key became present or ceased to be present. */
        boolean changeBy(int act) {
            boolean removes = act >= KEY_BOUND;
            int key = act % KEY_BOUND;
            int last = lastVisited(key);
            if (last == NONE || keys[last] != key) {
                return !removes && grow(last, key);
            }
            boolean changed = marks[last] != removes;
            marks[last] = removes;
            return changed;
        }

        private boolean grow(int parent, int key) {
            if (nodes >= MOST_NODES) {
                return false;
            }
            int place = 0;
            int depth = 1;
            if (parent != NONE) {
                place = key < keys[parent] ? parent + 1 : subtreeEnd(parent);
                depth = depths[parent] + 1;
            }
            int behind = nodes - place;
            System.arraycopy(keys, place, keys, place + 1, behind);
            System.arraycopy(depths, place, depths, place + 1, behind);
            System.arraycopy(marks, place, marks, place + 1, behind);
            keys[place] = key;
            depths[place] = depth;
            marks[place] = false;
            nodes++;
            return true;
        }

        /** The number of the first node behind the subtree of a node. */
        private int subtreeEnd(int root) {
            int end = root + 1;
            while (end < nodes && depths[end] > depths[root]) {
                end++;
            }
            return end;
        }

        int numberOfNode(int asked, int what) {
            switch (what) {
                case 0: return keys[asked];
                case 1: return marks[asked] ? 1 : 0;
                case 2: return depths[asked];
                case 3: return subtreeEnd(asked) - asked;
                default: return presentBetween(asked, subtreeEnd(asked));
            }
        }

        private int presentBetween(int from, int to) {
            int present = 0;
            for (int i = from; i < to; i++) {
                if (!marks[i]) {
                    present++;
                }
            }
            return present;
        }

        int presentKeys() {
            return presentBetween(0, nodes);
        }

        int markedNodes() {
            return nodes - presentKeys();
        }

        int presentBelow(int key) {
            int present = 0;
            for (int i = 0; i < nodes; i++) {
                if (!marks[i] && keys[i] < key) {
                    present++;
                }
            }
            return present;
        }

        int greatestUpTo(int limit) {
            int greatest = NONE;
            for (int i = 0; i < nodes; i++) {
                if (!marks[i] && keys[i] <= limit && keys[i] > greatest) {
                    greatest = keys[i];
                }
            }
            return greatest;
        }

        int leastFrom(int limit) {
            int least = KEY_BOUND;
            for (int i = 0; i < nodes; i++) {
                if (!marks[i] && keys[i] >= limit && keys[i] < least) {
                    least = keys[i];
                }
            }
            return least == KEY_BOUND ? NONE : least;
        }

        int greatestDepth() {
            int greatest = 0;
            for (int i = 0; i < nodes; i++) {
                greatest = Math.max(greatest, depths[i]);
            }
            return greatest;
        }

        int sumOfDepths(boolean withMarked) {
            int sum = 0;
            for (int i = 0; i < nodes; i++) {
                if (withMarked || !marks[i]) {
                    sum += depths[i];
                }
            }
            return sum;
        }

        int leaves() {
            int leaves = 0;
            for (int i = 0; i < nodes; i++) {
                if (subtreeEnd(i) == i + 1) {
                    leaves++;
                }
            }
            return leaves;
        }

        /** Writes for each key whether it is present. */
        void tellPresence(boolean[] presence) {
            for (int key = 0; key < presence.length; key++) {
                presence[key] = false;
            }
            for (int i = 0; i < nodes; i++) {
                if (keys[i] < presence.length) {
                    presence[keys[i]] = !marks[i];
                }
            }
        }

        int presentKeysAmong(boolean[] presence) {
            int among = 0;
            for (int i = 0; i < nodes; i++) {
                if (!marks[i] && keys[i] < presence.length && presence[keys[i]]) {
                    among++;
                }
            }
            return among;
        }
    }

    /** A rebuild; while none is running, its tree, its list and its queue are empty. */
    private static final class Rebuild {
        final Tree secondTree = new Tree();
        private final int[] list = new int[MOST_NODES];
        int listed;
        int copied;
        final int[] queue = new int[MOST_QUEUED];
        int waiting;
        boolean running;

        void becomeCopyOf(Rebuild other) {
            secondTree.becomeCopyOf(other.secondTree);
            listed = other.listed;
            copied = other.copied;
            waiting = other.waiting;
            running = other.running;
            System.arraycopy(other.list, 0, list, 0, listed);
            System.arraycopy(other.queue, 0, queue, 0, waiting);
        }

        void stop() {
            secondTree.nodes = 0;
            listed = 0;
            copied = 0;
            waiting = 0;
            running = false;
        }

        void start(boolean[] presence, int keys) {
            stop();
            running = true;
            listed = keys;
            int index = 0;
            for (int key = 0; key < presence.length; key++) {
                if (presence[key] && index < keys) {
                    list[placeInList(index, keys)] = key;
                    index++;
                }
            }
        }

        /** The place in the list of the key with an index among some keys in ascending order. */
        private static int placeInList(int index, int keys) {
            int from = 0;
            int to = keys;
            int place = 0;
            for (int level = 0; level < MOST_NODES; level++) {
                int middle = from + (to - from) / 2;
                if (index == middle) {
                    return place;
                }
                if (index < middle) {
                    place++;
                    to = middle;
                } else {
                    place += middle - from + 1;
                    from = middle + 1;
                }
            }
            return place;
        }

        void enqueue(int act) {
            if (waiting < MOST_QUEUED) {
                queue[waiting] = act;
                waiting++;
            }
        }

        private int dequeue() {
            int first = queue[0];
            waiting--;
            System.arraycopy(queue, 1, queue, 0, waiting);
            return first;
        }

        /** Makes a step, all but the exchange; returns its work. */
        int takeStep() {
            if (copied < listed) {
                secondTree.changeBy(list[copied]);
                copied++;
                return 1;
            }
            if (waiting > 0) {
                int act = dequeue();
                int work = secondTree.visitsFor(act);
                secondTree.changeBy(act);
                return work;
            }
            return 0;
        }

        boolean isComplete() {
            return copied == listed && waiting == 0;
        }

        int condition() {
            if (!running) {
                return 0;
            }
            return copied < listed ? 1 : 2;
        }

        int nextKey() {
            return copied < listed ? list[copied] : NONE;
        }

        /** How many steps a running rebuild still takes: one even if nothing is left to be done. */
        int stepsLeft() {
            return Math.max(1, listed - copied + waiting);
        }

        int callsLeft(int speed) {
            return speed < 1 ? NONE : (stepsLeft() + speed - 1) / speed;
        }
    }

    /** The buffer of act texts. */
    private static final class ActText {
        // What was read so far, where it is not the key that just stands there.
        private static final int ACT_IS_DUE = 500;
        private static final int KEY_IS_DUE = 501;
        private static final int DOT_WAS_READ = 502;
        private static final int ERROR = 503;

        private final char[] characters = new char[MOST_CHARACTERS];
        int length;

        void put(int code) {
            if (length < MOST_CHARACTERS) {
                characters[length] = (char) code;
                length++;
            }
        }

        private static int readOn(int read, char next) {
            boolean digit = next >= '0' && next <= '9';
            if (read == ACT_IS_DUE) {
                if (next == '.') {
                    return DOT_WAS_READ;
                }
                return next == '+' || next == '-' ? KEY_IS_DUE : ERROR;
            }
            if (read == KEY_IS_DUE) {
                return digit ? next - '0' : ERROR;
            }
            if (next == ';') {
                return ACT_IS_DUE;
            }
            // A key that begins with 0 ends with it.
            if (!digit || read == DOT_WAS_READ || read == 0) {
                return ERROR;
            }
            int key = 10 * read + next - '0';
            return key < KEY_BOUND ? key : ERROR;
        }

        private static boolean endsAct(int read) {
            return read < KEY_BOUND || read == DOT_WAS_READ;
        }

        int errorIndex() {
            int read = ACT_IS_DUE;
            for (int i = 0; i < length; i++) {
                read = readOn(read, characters[i]);
                if (read == ERROR) {
                    return i;
                }
            }
            return length;
        }

        /** Writes the acts of the text in a row; returns their number, NONE if the text is not complete. */
        int readInto(int[] acts) {
            int read = ACT_IS_DUE;
            int number = 0;
            boolean removes = false;
            for (int i = 0; i < length; i++) {
                if (characters[i] == ';' && endsAct(read) && number < acts.length) {
                    acts[number] = actOf(read, removes);
                    number++;
                }
                if (read == ACT_IS_DUE) {
                    removes = characters[i] == '-';
                }
                read = readOn(read, characters[i]);
                if (read == ERROR) {
                    return NONE;
                }
            }
            if (!endsAct(read) || number >= acts.length) {
                return NONE;
            }
            acts[number] = actOf(read, removes);
            return number + 1;
        }

        private static int actOf(int read, boolean removes) {
            if (read == DOT_WAS_READ) {
                return IDLE;
            }
            return removes ? read + KEY_BOUND : read;
        }
    }
}
