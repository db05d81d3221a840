import java.util.ArrayList;
import java.util.List;
import java.util.TreeSet;

/** What the document says, written again as plainly as possible, with linked nodes and copies of whole states. */
final class Model {
    static final class Node {
        final int key;
        boolean marked;
        Node left;
        Node right;

        Node(int key) {
            this.key = key;
        }
    }

    static Node copyOf(Node node) {
        if (node == null) {
            return null;
        }
        Node copy = new Node(node.key);
        copy.marked = node.marked;
        copy.left = copyOf(node.left);
        copy.right = copyOf(node.right);
        return copy;
    }

    static final class Tree {
        Node root;

        Tree copy() {
            Tree copy = new Tree();
            copy.root = copyOf(root);
            return copy;
        }

        List<Node> visited(int key) {
            List<Node> nodes = new ArrayList<>();
            for (Node n = root; n != null; n = key < n.key ? n.left : n.right) {
                nodes.add(n);
                if (n.key == key) {
                    break;
                }
            }
            return nodes;
        }

        Node nodeOf(int key) {
            List<Node> nodes = visited(key);
            return nodes.isEmpty() || nodes.get(nodes.size() - 1).key != key ? null : nodes.get(nodes.size() - 1);
        }

        void put(int key) {
            List<Node> nodes = visited(key);
            if (nodes.isEmpty()) {
                root = new Node(key);
                return;
            }
            Node last = nodes.get(nodes.size() - 1);
            if (last.key == key) {
                last.marked = false;
            } else if (key < last.key) {
                last.left = new Node(key);
            } else {
                last.right = new Node(key);
            }
        }

        void mark(int key) {
            Node node = nodeOf(key);
            if (node != null) {
                node.marked = true;
            }
        }

        TreeSet<Integer> present() {
            TreeSet<Integer> keys = new TreeSet<>();
            for (Node node : preorder(root)) {
                if (!node.marked) {
                    keys.add(node.key);
                }
            }
            return keys;
        }

        int nodes() {
            return preorder(root).size();
        }
    }

    static List<Node> preorder(Node node) {
        List<Node> nodes = new ArrayList<>();
        if (node != null) {
            nodes.add(node);
            nodes.addAll(preorder(node.left));
            nodes.addAll(preorder(node.right));
        }
        return nodes;
    }

    static int depth(Node node) {
        return node == null ? 0 : 1 + Math.max(depth(node.left), depth(node.right));
    }

    static List<Integer> copyingOrder(List<Integer> ascending) {
        List<Integer> order = new ArrayList<>();
        if (!ascending.isEmpty()) {
            int middle = ascending.size() / 2;
            order.add(ascending.get(middle));
            order.addAll(copyingOrder(ascending.subList(0, middle)));
            order.addAll(copyingOrder(ascending.subList(middle + 1, ascending.size())));
        }
        return order;
    }

    static final class State {
        Tree tree = new Tree();
        Tree second = new Tree();
        boolean running;
        List<Integer> list = new ArrayList<>();
        int copied;
        List<Integer> queue = new ArrayList<>();
        int[] settings = {50, 10, 2};
        int latest;
        int greatest;
        int all;
        int acts;
        int begun;
        int exchanges;
        int abandoned;

        State copy() {
            State copy = new State();
            copy.tree = tree.copy();
            copy.second = second.copy();
            copy.running = running;
            copy.list = new ArrayList<>(list);
            copy.copied = copied;
            copy.queue = new ArrayList<>(queue);
            copy.settings = settings.clone();
            copy.latest = latest;
            copy.greatest = greatest;
            copy.all = all;
            copy.acts = acts;
            copy.begun = begun;
            copy.exchanges = exchanges;
            copy.abandoned = abandoned;
            return copy;
        }

        void beginNow() {
            running = true;
            second = new Tree();
            list = copyingOrder(new ArrayList<>(tree.present()));
            copied = 0;
            queue = new ArrayList<>();
            begun++;
        }

        void endNow() {
            running = false;
            second = new Tree();
            list = new ArrayList<>();
            copied = 0;
            queue = new ArrayList<>();
        }

        int step() {
            int work = 0;
            if (copied < list.size()) {
                second.put(list.get(copied));
                copied++;
                work = 1;
            } else if (!queue.isEmpty()) {
                int act = queue.remove(0);
                work = second.visited(act % 500).size();
                if (act < 500) {
                    second.put(act);
                } else {
                    second.mark(act - 500);
                }
            }
            if (copied == list.size() && queue.isEmpty()) {
                tree = second;
                endNow();
                exchanges++;
            }
            return work;
        }

        /** kind: 0 add, 1 remove, 2 idle; returns whether the presence of the key changed. */
        boolean act(int kind, int key) {
            int work = 0;
            boolean changed = false;
            if (kind != 2) {
                boolean before = tree.present().contains(key);
                work = tree.visited(key).size();
                if (kind == 0) {
                    tree.put(key);
                } else {
                    tree.mark(key);
                }
                changed = before != tree.present().contains(key);
            }
            if (running && changed) {
                if (queue.size() == 30) {
                    endNow();
                    abandoned++;
                } else {
                    queue.add(kind == 0 ? key : key + 500);
                }
            }
            for (int i = 0; running && i < settings[2]; i++) {
                work += step();
            }
            int nodes = tree.nodes();
            int marked = nodes - tree.present().size();
            if (!running && (100 * marked > settings[0] * nodes || depth(tree.root) > settings[1])) {
                beginNow();
            }
            latest = work;
            greatest = Math.max(greatest, work);
            all += work;
            acts++;
            return changed;
        }

        boolean full(int key) {
            return tree.nodes() == 120 && tree.nodeOf(key) == null;
        }
    }

    State now = new State();
    List<State> saved = new ArrayList<>();
    State[] slots = new State[2];
    String buffer = "";

    private void save() {
        saved.add(now.copy());
        if (saved.size() > 6) {
            saved.remove(0);
        }
    }

    private static void illegal(boolean bad) {
        if (bad) {
            throw new IllegalArgumentException();
        }
    }

    private static void wrongState(boolean bad) {
        if (bad) {
            throw new IllegalStateException();
        }
    }

    private static void outOfBounds(boolean bad) {
        if (bad) {
            throw new IndexOutOfBoundsException();
        }
    }

    int add(int key) {
        illegal(key < 0 || key > 499);
        wrongState(now.full(key));
        save();
        return now.act(0, key) ? 1 : 0;
    }

    int remove(int key) {
        illegal(key < 0 || key > 499);
        save();
        return now.act(1, key) ? 1 : 0;
    }

    int idle() {
        save();
        now.act(2, 0);
        return now.latest;
    }

    int begin() {
        wrongState(now.running);
        save();
        now.beginNow();
        return now.list.size();
    }

    int abandon() {
        wrongState(!now.running);
        save();
        int copied = now.copied;
        now.endNow();
        now.abandoned++;
        return copied;
    }

    int set(int setting, int value) {
        outOfBounds(setting < 0 || setting > 2);
        illegal(value < new int[] {10, 3, 1}[setting] || value > new int[] {100, 40, 8}[setting]);
        save();
        int previous = now.settings[setting];
        now.settings[setting] = value;
        return previous;
    }

    int append(int code) {
        illegal(code < 33 || code > 126);
        wrongState(buffer.length() == 60);
        buffer += (char) code;
        return buffer.length();
    }

    int clearBuffer() {
        int length = buffer.length();
        buffer = "";
        return length;
    }

    private static final String ACT = "(\\.|[+-](0|[1-9][0-9]?|[1-4][0-9][0-9]))";

    /** Whether some act text begins with these characters: one is found by adding a few characters. */
    private static boolean beginsAnActText(String text) {
        for (String end : new String[] {"", "0", "."}) {
            if ((text + end).matches(ACT + "(;" + ACT + ")*")) {
                return true;
            }
        }
        return text.isEmpty();
    }

    int firstError() {
        int length = 0;
        while (length < buffer.length() && beginsAnActText(buffer.substring(0, length + 1))) {
            length++;
        }
        return length;
    }

    int execute() {
        illegal(!buffer.matches(ACT + "(;" + ACT + ")*"));
        save();
        String[] acts = buffer.split(";");
        buffer = "";
        int done = 0;
        for (String act : acts) {
            int key = act.equals(".") ? 0 : Integer.parseInt(act.substring(1));
            if (act.startsWith("+") && now.full(key)) {
                break;
            }
            now.act("+-.".indexOf(act.charAt(0)), key);
            done++;
        }
        return done;
    }

    int undo() {
        wrongState(saved.isEmpty());
        now = saved.remove(saved.size() - 1);
        return saved.size();
    }

    int keep(int slot) {
        illegal(slot < 0 || slot > 1);
        slots[slot] = now.copy();
        return now.tree.present().size();
    }

    int goBack(int slot) {
        illegal(slot < 0 || slot > 1);
        wrongState(slots[slot] == null);
        save();
        now = slots[slot].copy();
        return now.tree.present().size();
    }

    int contains(int key) {
        illegal(key < 0 || key > 499);
        return now.tree.present().contains(key) ? 1 : 0;
    }

    private static int orNone(Integer key) {
        return key == null ? -1 : key;
    }

    int near(int key, int what) {
        illegal(key < 0 || key > 499 || what < 0 || what > 3);
        TreeSet<Integer> keys = now.tree.present();
        switch (what) {
            case 0: return orNone(keys.floor(key));
            case 1: return orNone(keys.ceiling(key));
            case 2: return orNone(keys.lower(key));
            default: return orNone(keys.higher(key));
        }
    }

    int rank(int key) {
        illegal(key < 0 || key > 499);
        return now.tree.present().headSet(key).size();
    }

    int keyAt(int rank) {
        illegal(rank < 0);
        List<Integer> keys = new ArrayList<>(now.tree.present());
        return rank < keys.size() ? keys.get(rank) : -1;
    }

    int node(boolean second, int node, int what) {
        illegal(node < 0 || what < 0 || what > 4);
        Tree tree = second ? now.second : now.tree;
        List<Node> nodes = preorder(tree.root);
        if (node >= nodes.size()) {
            return -1;
        }
        Node asked = nodes.get(node);
        Tree below = new Tree();
        below.root = asked;
        switch (what) {
            case 0: return asked.key;
            case 1: return asked.marked ? 1 : 0;
            case 2: return tree.visited(asked.key).size();
            case 3: return below.nodes();
            default: return below.present().size();
        }
    }

    int path(int key, int index) {
        illegal(key < 0 || key > 499 || index < 0);
        List<Node> nodes = now.tree.visited(key);
        return index < nodes.size() ? nodes.get(index).key : -1;
    }

    int tree(boolean second, int what) {
        illegal(what < 0 || what > 6);
        Tree tree = second ? now.second : now.tree;
        List<Node> nodes = preorder(tree.root);
        int present = tree.present().size();
        int depths = 0;
        int leaves = 0;
        for (Node node : nodes) {
            depths += tree.visited(node.key).size();
            leaves += node.left == null && node.right == null ? 1 : 0;
        }
        int least = 0;
        while ((1 << least) - 1 < present) {
            least++;
        }
        return new int[] {nodes.size(), present, nodes.size() - present, depth(tree.root), depths, leaves, least}[what];
    }

    int rebuild(int what) {
        illegal(what < 0 || what > 5);
        if (!now.running) {
            return what == 4 ? -1 : 0;
        }
        boolean left = now.copied < now.list.size();
        TreeSet<Integer> justOne = new TreeSet<>(now.tree.present());
        justOne.removeAll(now.second.present());
        TreeSet<Integer> others = new TreeSet<>(now.second.present());
        others.removeAll(now.tree.present());
        return new int[] {left ? 1 : 2, now.list.size(), now.copied, now.queue.size(),
            left ? now.list.get(now.copied) : -1, justOne.size() + others.size()}[what];
    }

    int queued(int index) {
        illegal(index < 0);
        return index < now.queue.size() ? now.queue.get(index) : -1;
    }

    int count(int what) {
        illegal(what < 0 || what > 8);
        return new int[] {now.latest, now.greatest, now.all, now.acts, now.begun, now.exchanges, now.abandoned,
            saved.size(), buffer.length()}[what];
    }

    int setting(int setting) {
        outOfBounds(setting < 0 || setting > 2);
        return now.settings[setting];
    }

    /** The number of calls of idle() until the exchange, and the greatest work of one, found by doing them on a copy. */
    private int[] foreseen(int speed) {
        State later = now.copy();
        later.settings[2] = speed;
        int calls = 0;
        int longest = 0;
        while (later.exchanges == now.exchanges) {
            later.act(2, 0);
            calls++;
            longest = Math.max(longest, later.latest);
        }
        return new int[] {calls, longest};
    }

    int untilExchange(int speed) {
        illegal(speed < 1 || speed > 8);
        return now.running ? foreseen(speed)[0] : -1;
    }

    int longest(int speed) {
        illegal(speed < 1 || speed > 8);
        return now.running ? foreseen(speed)[1] : -1;
    }

    int leastSpeed(int calls) {
        illegal(calls < 1);
        for (int speed = 1; now.running && speed <= 8; speed++) {
            if (foreseen(speed)[0] <= calls) {
                return speed;
            }
        }
        return -1;
    }

    double meanDepth() {
        int sum = 0;
        for (int key : now.tree.present()) {
            sum += now.tree.visited(key).size();
        }
        return sum == 0 ? 0.0 : (double) sum / (double) now.tree.present().size();
    }
}
