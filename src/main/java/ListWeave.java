/**
 * A list that is woven by operations with IDs, in any order in which each comes behind what it hangs on.
 * What is told is a plain function of the set of operations that were done.
 */
public final class ListWeave {
    /** There is none. */
    public static final int NONE = -1;

    private static final int BEGINNING = 0;
    private static final int LEAST_ID = 8;
    private static final int GREATEST_ID = 800007;
    private static final int KINDS = 7;
    private static final int SUMMED_KIND = 2;
    private static final int MOST_ELEMENTS = 512;
    private static final int MOST_CHANGES = 1024;
    private static final int SHORTEST_RUN = 2;
    private static final int LONGEST_RUN = 8;
    private static final int RUN_STEP = 8;
    private static final int BITS_OF_A_BYTE = 8;
    private static final long LOWEST_BYTE = 255L;

    private final UsedIds used;
    /** What others are inserted behind at first; it is never woven in, and so has no row and no place. */
    private final Element beginning;
    /** All elements, removed ones too, as they lie; only the first ones, as many as there are elements, count. */
    private final Element[] woven;
    private int elements;
    private int changes;

    public ListWeave() {
        used = new UsedIds();
        beginning = new Element(BEGINNING, BEGINNING, 0);
        woven = new Element[MOST_ELEMENTS];
        elements = 0;
        changes = 0;
    }

    public void clear() {
        used.forgetAll();
        beginning.followers = 0;
        elements = 0;
        changes = 0;
    }

    public boolean insert(int id, int behind, int kind, int value) {
        Element parent = elementOrBeginning(behind);
        if (parent == null || id <= behind || !isFree(id) || !isKind(kind) || elements >= MOST_ELEMENTS) {
            return false;
        }
        weave(id, parent, kind, value);
        return true;
    }

    public boolean run(int id, int behind, int n, long part) {
        if (n < SHORTEST_RUN || n > LONGEST_RUN || elements + n > MOST_ELEMENTS) {
            return false;
        }
        Element last = elementOrBeginning(behind);
        if (last == null || id <= behind || !areFree(id, n)) {
            return false;
        }
        for (int i = 0; i < n; i++) {
            last = weave(id + RUN_STEP * i, last, SUMMED_KIND, byteOf(part, n - 1 - i));
        }
        return true;
    }

    public boolean set(int id, int element, int kind, int value) {
        Element changed = elementOf(element);
        if (changed == null || !mayChange(id, element) || !isKind(kind)) {
            return false;
        }
        countChange(id);
        changed.sets++;
        changed.offer(id, kind, value);
        return true;
    }

    public boolean remove(int id, int element) {
        Element changed = elementOf(element);
        if (changed == null || !mayChange(id, element)) {
            return false;
        }
        countChange(id);
        changed.removes++;
        return true;
    }

    public int size() {
        return visibleUpTo(elements);
    }

    public int at(int place, int what) throws IndexOutOfBoundsException {
        Element found = elementAt(place);
        if (found == null) {
            throw new IndexOutOfBoundsException("no such place");
        }
        switch (what) {
            case 0: return found.id;
            case 1: return found.kind;
            case 2: return found.value;
            case 3: return found.standing;
            default: throw new IndexOutOfBoundsException("no such what");
        }
    }

    public int place(int element) {
        int lies = rowOf(element);
        if (lies == NONE || !woven[lies].isVisible()) {
            return NONE;
        }
        return visibleUpTo(lies);
    }

    public int ahead(int element) throws IllegalArgumentException {
        int lies = rowOf(element);
        if (lies == NONE) {
            throw new IllegalArgumentException("no such element");
        }
        return visibleUpTo(lies);
    }

    public boolean before(int a, int b) throws IllegalArgumentException {
        int rowOfA = rowOf(a);
        int rowOfB = rowOf(b);
        if (rowOfA == NONE || rowOfB == NONE) {
            throw new IllegalArgumentException("no such element");
        }
        return rowOfA < rowOfB;
    }

    public int row(int i) throws IndexOutOfBoundsException {
        if (i < 0 || i >= elements) {
            throw new IndexOutOfBoundsException("no such row");
        }
        Element found = woven[i];
        return found.isVisible() ? found.id : -found.id;
    }

    public int of(int element, int what) throws IllegalArgumentException {
        Element found = elementOrBeginning(element);
        if (found == null) {
            throw new IllegalArgumentException("no such element");
        }
        if (element == BEGINNING && what > 1) {
            throw new IllegalArgumentException("not told for the beginning");
        }
        switch (what) {
            case 0: return found.behind;
            case 1: return found.followers;
            case 2: return found.sets;
            case 3: return found.removes;
            case 4: return found.standing;
            case 5: return found.kind;
            case 6: return found.value;
            default: throw new IllegalArgumentException("no such what");
        }
    }

    public long sum(int from, int to) {
        long total = 0;
        int reached = 0;
        for (int i = 0; i < elements && reached < to; i++) {
            Element next = woven[i];
            if (!next.isVisible()) {
                continue;
            }
            if (reached >= from && next.kind == SUMMED_KIND) {
                total += next.value;
            }
            reached++;
        }
        return total;
    }

    public int look(int which) {
        switch (which) {
            case 0: return elements;
            case 1: return visibleUpTo(elements);
            case 2: return changes;
            case 3: return used.greatest();
            case 4: return longestWay();
            default: return NONE;
        }
    }

    private boolean isFree(int id) {
        return id >= LEAST_ID && id <= GREATEST_ID && !used.has(id);
    }

    /** The first ID is looked at first, so that none that follows can wrap around. */
    private boolean areFree(int first, int n) {
        for (int i = 0; i < n; i++) {
            if (!isFree(first + RUN_STEP * i)) {
                return false;
            }
        }
        return true;
    }

    private static boolean isKind(int kind) {
        return kind >= 0 && kind < KINDS;
    }

    private boolean mayChange(int id, int element) {
        return isFree(id) && id > element && changes < MOST_CHANGES;
    }

    private void countChange(int id) {
        used.note(id);
        changes++;
    }

    private static int byteOf(long part, int fromLowest) {
        return (int) ((part >>> (BITS_OF_A_BYTE * fromLowest)) & LOWEST_BYTE);
    }

    /** The callers have tested that there is room for one more, that id is free, and that it is above the parent. */
    private Element weave(int id, Element parent, int kind, int value) {
        int lies = rowForNew(id, parent);
        for (int i = elements; i > lies; i--) {
            woven[i] = woven[i - 1];
        }
        Element made = new Element(id, parent.id, parent.way + 1);
        made.offer(id, kind, value);
        woven[lies] = made;
        elements++;
        parent.followers++;
        used.note(id);
        return made;
    }

    /**
     * What hangs on an element has a greater ID than it has. So the elements with greater IDs right behind the parent
     * are just the siblings that come first, with all that hangs on them; and the next one is a lesser sibling, or
     * one that does not hang on the parent, which is less than the parent.
     */
    private int rowForNew(int id, Element parent) {
        int lies = parent.id == BEGINNING ? 0 : rowOf(parent.id) + 1;
        while (lies < elements && woven[lies].id > id) {
            lies++;
        }
        return lies;
    }

    private int rowOf(int element) {
        for (int i = 0; i < elements; i++) {
            if (woven[i].id == element) {
                return i;
            }
        }
        return NONE;
    }

    private Element elementOf(int element) {
        int lies = rowOf(element);
        return lies == NONE ? null : woven[lies];
    }

    private Element elementOrBeginning(int element) {
        return element == BEGINNING ? beginning : elementOf(element);
    }

    private Element elementAt(int place) {
        int reached = 0;
        for (int i = 0; i < elements; i++) {
            if (!woven[i].isVisible()) {
                continue;
            }
            if (reached == place) {
                return woven[i];
            }
            reached++;
        }
        return null;
    }

    private int visibleUpTo(int end) {
        int visible = 0;
        for (int i = 0; i < end; i++) {
            if (woven[i].isVisible()) {
                visible++;
            }
        }
        return visible;
    }

    private int longestWay() {
        int longest = 0;
        for (int i = 0; i < elements; i++) {
            longest = Math.max(longest, woven[i].way);
        }
        return longest;
    }

    /** An element, with the one of its values that stands: the others are never told, so they are not kept. */
    private static final class Element {
        private final int id;
        private final int behind;
        /** How many steps it is back to the beginning. */
        private final int way;
        private int followers;
        private int sets;
        private int removes;
        private int standing;
        private int kind;
        private int value;

        private Element(int id, int behind, int way) {
            this.id = id;
            this.behind = behind;
            this.way = way;
            followers = 0;
            sets = 0;
            removes = 0;
            standing = NONE;
            kind = 0;
            value = 0;
        }

        private boolean isVisible() {
            return removes == 0;
        }

        /** An operation's value, which stands only if no greater operation's value does. */
        private void offer(int operation, int newKind, int newValue) {
            if (operation > standing) {
                standing = operation;
                kind = newKind;
                value = newValue;
            }
        }
    }

    /** The IDs of all operations that were done, kept sorted, so that one is found in few steps. */
    private static final class UsedIds {
        private final int[] ids;
        private int count;

        private UsedIds() {
            ids = new int[MOST_ELEMENTS + MOST_CHANGES];
            count = 0;
        }

        private void forgetAll() {
            count = 0;
        }

        private boolean has(int id) {
            int i = firstNotBelow(id);
            return i < count && ids[i] == id;
        }

        private void note(int id) {
            if (count >= ids.length) {
                return;
            }
            int i = firstNotBelow(id);
            System.arraycopy(ids, i, ids, i + 1, count - i);
            ids[i] = id;
            count++;
        }

        private int greatest() {
            return count == 0 ? NONE : ids[count - 1];
        }

        /** The span from low to high gets shorter at every turn. */
        private int firstNotBelow(int id) {
            int low = 0;
            int high = count;
            while (low < high) {
                int middle = (low + high) / 2;
                if (ids[middle] < id) {
                    low = middle + 1;
                } else {
                    high = middle;
                }
            }
            return low;
        }
    }
}
