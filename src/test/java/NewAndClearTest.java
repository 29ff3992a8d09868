/** Promises 1 and 2: a new object, and clear. */
public final class NewAndClearTest {
    private static final Check check = new Check();

    public static void main(String[] args) {
        check.due("NONE", -1, () -> ListWeave.NONE);
        isEmpty("new", new ListWeave());
        clearedIsAsNew();
        clearMakesRoomAgain();
        objectsAreApart();
        check.end();
    }

    private static void isEmpty(String name, ListWeave x) {
        check.due(name + " size()", 0, x::size);
        check.due(name + " look(0)", 0, () -> x.look(0));
        check.due(name + " look(1)", 0, () -> x.look(1));
        check.due(name + " look(2)", 0, () -> x.look(2));
        check.due(name + " look(3)", -1, () -> x.look(3));
        check.due(name + " look(4)", 0, () -> x.look(4));
        check.due(name + " row(0)", Check.THROWS_INDEX, () -> x.row(0));
        check.due(name + " at(0, 0)", Check.THROWS_INDEX, () -> x.at(0, 0));
        check.due(name + " of(0, 0)", 0, () -> x.of(0, 0));
        check.due(name + " of(0, 1)", 0, () -> x.of(0, 1));
        check.due(name + " of(8, 0)", Check.THROWS_ARGUMENT, () -> x.of(8, 0));
        check.due(name + " place(8)", -1, () -> x.place(8));
        check.due(name + " ahead(8)", Check.THROWS_ARGUMENT, () -> x.ahead(8));
        check.due(name + " sum(0, 9)", 0, () -> x.sum(0, 9));
    }

    private static void clearedIsAsNew() {
        ListWeave x = new ListWeave();
        x.clear();
        isEmpty("cleared at once", x);
        fill(x);
        String first = Check.all(x);
        x.clear();
        isEmpty("cleared", x);
        fill(x);
        check.same("the same again after clear()", first, Check.all(x));
    }

    private static void fill(ListWeave x) {
        check.yes("insert(8, 0, 2, 5)", x.insert(8, 0, 2, 5));
        check.yes("run(16, 8, 3, 66051)", x.run(16, 8, 3, 66051));
        check.yes("set(40, 8, 3, 7)", x.set(40, 8, 3, 7));
        check.yes("remove(48, 24)", x.remove(48, 24));
    }

    private static void clearMakesRoomAgain() {
        ListWeave x = new ListWeave();
        for (int turn = 0; turn < 3; turn++) {
            for (int i = 0; i < 64; i++) {
                check.yes("run of 8, number " + i + " in turn " + turn, x.run(8 + 64 * i, 0, 8, 1));
            }
            check.no("insert into 512", x.insert(9, 0, 0, 0));
            x.clear();
        }
        isEmpty("cleared three times", x);
    }

    private static void objectsAreApart() {
        ListWeave x = new ListWeave();
        ListWeave y = new ListWeave();
        fill(x);
        isEmpty("the other object", y);
    }
}
