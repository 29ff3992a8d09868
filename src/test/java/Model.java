import java.util.ArrayList;
import java.util.HashSet;
import java.util.List;
import java.util.Set;
import java.util.TreeMap;

/** The document's terms, as plainly as they can be written: a tree that is walked anew for every answer. */
final class Model {
    private static final class Node {
        int id;
        int behind;
        /** By falling IDs. */
        final TreeMap<Integer, Node> followers = new TreeMap<>(java.util.Comparator.reverseOrder());
        /** Kind and int, by the ID of the INSERT or SET. */
        final TreeMap<Integer, int[]> values = new TreeMap<>();
        int removes;
    }

    private Node beginning = new Node();
    private TreeMap<Integer, Node> nodes = new TreeMap<>();
    private Set<Integer> used = new HashSet<>();
    private int changes = 0;

    void clear() {
        beginning = new Node();
        nodes = new TreeMap<>();
        used = new HashSet<>();
        changes = 0;
    }

    boolean insert(int id, int behind, int kind, int value) {
        Node parent = behind == 0 ? beginning : nodes.get(behind);
        if (!isFree(id) || parent == null || id <= behind || kind < 0 || kind > 6 || nodes.size() == 512) {
            return false;
        }
        Node node = new Node();
        node.id = id;
        node.behind = behind;
        node.values.put(id, new int[] {kind, value});
        parent.followers.put(id, node);
        nodes.put(id, node);
        used.add(id);
        return true;
    }

    /** Done one by one, and taken back if one could not be done. */
    boolean run(int id, int behind, int n, long part) {
        if (n < 2 || n > 8) {
            return false;
        }
        String bytes = String.format("%016x", part).substring(16 - 2 * n);
        int last = behind;
        for (int i = 0; i < n; i++) {
            int value = Integer.parseInt(bytes.substring(2 * i, 2 * i + 2), 16);
            if (!insert(id + 8 * i, last, 2, value)) {
                takeBack(id, behind, i);
                return false;
            }
            last = id + 8 * i;
        }
        return true;
    }

    private void takeBack(int id, int behind, int done) {
        if (done == 0) {
            return;
        }
        (behind == 0 ? beginning : nodes.get(behind)).followers.remove(id);
        for (int i = 0; i < done; i++) {
            nodes.remove(id + 8 * i);
            used.remove(id + 8 * i);
        }
    }

    boolean set(int id, int element, int kind, int value) {
        if (kind < 0 || kind > 6 || !change(id, element)) {
            return false;
        }
        nodes.get(element).values.put(id, new int[] {kind, value});
        return true;
    }

    boolean remove(int id, int element) {
        if (!change(id, element)) {
            return false;
        }
        nodes.get(element).removes++;
        return true;
    }

    private boolean change(int id, int element) {
        if (!isFree(id) || !nodes.containsKey(element) || id <= element || changes == 1024) {
            return false;
        }
        used.add(id);
        changes++;
        return true;
    }

    private boolean isFree(int id) {
        return id >= 8 && id <= 800007 && !used.contains(id);
    }

    private List<Node> all() {
        List<Node> all = new ArrayList<>();
        walk(beginning, all);
        return all;
    }

    private static void walk(Node from, List<Node> all) {
        for (Node node : from.followers.values()) {
            all.add(node);
            walk(node, all);
        }
    }

    private List<Node> visible() {
        List<Node> visible = all();
        visible.removeIf(node -> node.removes > 0);
        return visible;
    }

    long size() {
        return visible().size();
    }

    long at(int place, int what) {
        List<Node> visible = visible();
        if (place < 0 || place >= visible.size() || what < 0 || what > 3) {
            return Check.THROWS_INDEX;
        }
        Node node = visible.get(place);
        return what == 0 ? node.id : told(node, new int[] {0, 5, 6, 4}[what]);
    }

    long place(int element) {
        return visible().indexOf(nodes.get(element));
    }

    long ahead(int element) {
        if (!nodes.containsKey(element)) {
            return Check.THROWS_ARGUMENT;
        }
        List<Node> all = all();
        return all.subList(0, all.indexOf(nodes.get(element))).stream().filter(node -> node.removes == 0).count();
    }

    long before(int a, int b) {
        if (!nodes.containsKey(a) || !nodes.containsKey(b)) {
            return Check.THROWS_ARGUMENT;
        }
        List<Node> all = all();
        return all.indexOf(nodes.get(a)) < all.indexOf(nodes.get(b)) ? 1 : 0;
    }

    long row(int i) {
        List<Node> all = all();
        if (i < 0 || i >= all.size()) {
            return Check.THROWS_INDEX;
        }
        return all.get(i).removes > 0 ? -all.get(i).id : all.get(i).id;
    }

    long of(int element, int what) {
        Node node = element == 0 ? beginning : nodes.get(element);
        if (node == null || what < 0 || what > (element == 0 ? 1 : 6)) {
            return Check.THROWS_ARGUMENT;
        }
        return told(node, what);
    }

    private static long told(Node node, int what) {
        switch (what) {
            case 0: return node.behind;
            case 1: return node.followers.size();
            case 2: return node.values.size() - 1;
            case 3: return node.removes;
            case 4: return node.values.lastKey();
            default: return node.values.lastEntry().getValue()[what - 5];
        }
    }

    long sum(int from, int to) {
        List<Node> visible = visible();
        long sum = 0;
        for (int place = Math.max(0, from); place < Math.min(to, visible.size()); place++) {
            int[] value = visible.get(place).values.lastEntry().getValue();
            sum += value[0] == 2 ? value[1] : 0;
        }
        return sum;
    }

    long look(int which) {
        switch (which) {
            case 0: return nodes.size();
            case 1: return size();
            case 2: return changes;
            case 3: return used.isEmpty() ? -1 : java.util.Collections.max(used);
            case 4: return deepest(beginning);
            default: return -1;
        }
    }

    private static long deepest(Node from) {
        long deepest = 0;
        for (Node node : from.followers.values()) {
            deepest = Math.max(deepest, 1 + deepest(node));
        }
        return deepest;
    }
}
