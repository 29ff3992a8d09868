/** Promises 1 and 2: a new object, and clear. */
public final class NewAndClearTest {
    private static final Check check = new Check();

    public static void main(String[] args) {
        newHasNoElements();
        clearedAtOnce();
        clearedIsAsNew();
        clearedTwice();
        clearedFromFull();
        clearedIdsAreFree();
        clearedElementsAreGone();
        objectsAreApart();
        check.end();
    }

    private static void isEmpty(String name, ListWeave x) {
        check.due(name + " size()", 0, x::size);
        check.due(name + " look(0)", 0, () -> x.look(0));
        check.due(name + " look(1)", 0, () -> x.look(1));
        check.due(name + " look(2)", 0, () -> x.look(2));
        check.due(name + " look(3)", -1, () -> x.look(3));
        check.due(name + " look(4)", 0, () -> x.look(4));
        check.due(name + " row(0)", Check.THROWS_INDEX, () -> x.row(0));
        check.due(name + " at(0, 0)", Check.THROWS_INDEX, () -> x.at(0, 0));
        check.due(name + " of(0, 0)", 0, () -> x.of(0, 0));
        check.due(name + " of(0, 1)", 0, () -> x.of(0, 1));
        check.due(name + " of(8, 0)", Check.THROWS_ARGUMENT, () -> x.of(8, 0));
        check.due(name + " place(8)", -1, () -> x.place(8));
        check.due(name + " ahead(8)", Check.THROWS_ARGUMENT, () -> x.ahead(8));
        check.due(name + " before(8, 8)", Check.THROWS_ARGUMENT, () -> x.before(8, 8) ? 1 : 0);
        check.due(name + " sum(0, 9)", 0, () -> x.sum(0, 9));
        check.no(name + " set(9, 8, 0, 0)", x.set(9, 8, 0, 0));
        check.no(name + " remove(9, 8)", x.remove(9, 8));
    }

    private static void newHasNoElements() {
        check.sentence("ListWeave(): No elements.");
        isEmpty("new", new ListWeave());
    }

    private static void clearedAtOnce() {
        check.sentence("All is as at first. (of an empty one)");
        ListWeave x = new ListWeave();
        x.clear();
        isEmpty("cleared at once", x);
    }

    private static void clearedIsAsNew() {
        check.sentence("All is as at first.");
        ListWeave x = new ListWeave();
        fill(x);
        String first = Check.all(x);
        x.clear();
        isEmpty("cleared", x);
        fill(x);
        check.same("the same again after clear()", first, Check.all(x));
    }

    private static void fill(ListWeave x) {
        check.yes("insert(8, 0, 2, 5)", x.insert(8, 0, 2, 5));
        check.yes("run(16, 8, 3, 66051)", x.run(16, 8, 3, 66051));
        check.yes("set(40, 8, 3, 7)", x.set(40, 8, 3, 7));
        check.yes("remove(48, 24)", x.remove(48, 24));
    }

    private static void clearedTwice() {
        check.sentence("All is as at first. (twice)");
        ListWeave x = Lists.allRemoved();
        x.clear();
        x.clear();
        isEmpty("cleared twice", x);
    }

    private static void clearedFromFull() {
        check.sentence("All is as at first. (of a full one)");
        ListWeave x = Lists.full();
        for (int turn = 0; turn < 3; turn++) {
            check.no("insert into 512", x.insert(9, 0, 0, 0));
            x.clear();
            isEmpty("cleared from 512", x);
            for (int i = 0; i < 64; i++) {
                check.yes("run of 8, number " + i + " in turn " + turn, x.run(8 + 64 * i, 0, 8, 1));
            }
        }
    }

    private static void clearedIdsAreFree() {
        check.sentence("All is as at first. (every ID is free)");
        ListWeave x = Lists.five();
        x.clear();
        int[] were = {53, 52, 51, 50, 40, 31, 30, 20, 10};
        for (int id : were) {
            check.yes("insert by " + id, x.insert(id, 0, 0, 0));
        }
        check.same("all visible, behind the beginning", "53 52 51 50 40 31 30 20 10", Check.rows(x));
    }

    private static void clearedElementsAreGone() {
        check.sentence("All is as at first. (no element to hang on)");
        ListWeave x = Lists.five();
        x.clear();
        check.no("insert behind 10", x.insert(60, 10, 0, 0));
        check.no("run behind 10", x.run(60, 10, 2, 0));
        check.no("set of 10", x.set(60, 10, 0, 0));
        check.no("remove of 10", x.remove(60, 10));
        check.due("of(10, 0)", Check.THROWS_ARGUMENT, () -> x.of(10, 0));
        isEmpty("cleared, and refused", x);
    }

    private static void objectsAreApart() {
        check.sentence("ListWeave(): No elements. (while another one has some)");
        ListWeave x = new ListWeave();
        ListWeave y = new ListWeave();
        fill(x);
        isEmpty("the other object", y);
    }
}
