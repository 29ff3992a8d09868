/** Promise 3: insert, and how all elements lie. */
public final class InsertTest {
    private static final Check check = new Check();

    public static void main(String[] args) {
        liesByFallingIds();
        eachIsFollowedByItsOwn();
        edgesOfIdsAndKinds();
        wrongOnesChangeNothing();
        behindRemovedOnes();
        atMost512();
        check.end();
    }

    private static void liesByFallingIds() {
        ListWeave x = new ListWeave();
        check.yes("insert(30, 0, 2, 1)", x.insert(30, 0, 2, 1));
        check.yes("insert(10, 0, 2, 2)", x.insert(10, 0, 2, 2));
        check.yes("insert(20, 0, 2, 3)", x.insert(20, 0, 2, 3));
        check.yes("insert(40, 0, 2, 4)", x.insert(40, 0, 2, 4));
        check.same("behind the beginning", "40 30 20 10", Check.rows(x));
        check.due("at(1, 2)", 1, () -> x.at(1, 2));
    }

    private static void eachIsFollowedByItsOwn() {
        ListWeave x = new ListWeave();
        x.insert(10, 0, 0, 0);
        x.insert(20, 0, 0, 0);
        x.insert(50, 10, 0, 0);
        x.insert(30, 10, 0, 0);
        x.insert(60, 30, 0, 0);
        x.insert(35, 30, 0, 0);
        x.insert(70, 20, 0, 0);
        x.insert(40, 10, 0, 0);
        x.insert(80, 50, 0, 0);
        x.insert(15, 10, 0, 0);
        x.insert(12, 0, 0, 0);
        check.same("the whole", "20 70 12 10 50 80 40 30 60 35 15", Check.rows(x));
    }

    private static void edgesOfIdsAndKinds() {
        ListWeave x = new ListWeave();
        check.no("insert(7, 0, 0, 0)", x.insert(7, 0, 0, 0));
        check.no("insert(0, 0, 0, 0)", x.insert(0, 0, 0, 0));
        check.no("insert(-8, 0, 0, 0)", x.insert(-8, 0, 0, 0));
        check.no("insert(least int, 0, 0, 0)", x.insert(Integer.MIN_VALUE, 0, 0, 0));
        check.no("insert(greatest int, 0, 0, 0)", x.insert(Integer.MAX_VALUE, 0, 0, 0));
        check.no("insert(800008, 0, 0, 0)", x.insert(800008, 0, 0, 0));
        check.yes("insert(8, 0, 0, least int)", x.insert(8, 0, 0, Integer.MIN_VALUE));
        check.yes("insert(800007, 0, 6, greatest int)", x.insert(800007, 0, 6, Integer.MAX_VALUE));
        check.no("insert(9, 0, 7, 0)", x.insert(9, 0, 7, 0));
        check.no("insert(9, 0, -1, 0)", x.insert(9, 0, -1, 0));
        check.due("of(8, 6)", Integer.MIN_VALUE, () -> x.of(8, 6));
        check.due("of(800007, 5)", 6, () -> x.of(800007, 5));
        check.due("of(800007, 6)", Integer.MAX_VALUE, () -> x.of(800007, 6));
        check.same("both", "800007 8", Check.rows(x));
    }

    private static void wrongOnesChangeNothing() {
        ListWeave x = new ListWeave();
        x.insert(20, 0, 2, 1);
        x.insert(30, 20, 2, 2);
        x.set(40, 20, 2, 3);
        x.remove(50, 30);
        String as = Check.all(x);
        check.no("an element's ID again", x.insert(30, 0, 2, 9));
        check.no("a SET's ID", x.insert(40, 20, 2, 9));
        check.no("a REMOVE's ID", x.insert(50, 20, 2, 9));
        check.no("behind itself", x.insert(21, 21, 2, 9));
        check.no("behind none", x.insert(60, 25, 2, 9));
        check.no("behind a SET", x.insert(60, 40, 2, 9));
        check.no("behind a REMOVE", x.insert(60, 50, 2, 9));
        check.no("behind -1", x.insert(60, -1, 2, 9));
        check.no("behind -20", x.insert(60, -20, 2, 9));
        check.no("not above what it is behind", x.insert(19, 20, 2, 9));
        check.no("kind 7", x.insert(60, 20, 7, 9));
        check.no("kind -1", x.insert(60, 20, -1, 9));
        check.same("nothing changed", as, Check.all(x));
        check.yes("the ID is still free", x.insert(60, 20, 2, 9));
        check.yes("so is this one", x.insert(21, 20, 2, 9));
    }

    private static void behindRemovedOnes() {
        ListWeave x = new ListWeave();
        x.insert(8, 0, 0, 0);
        x.insert(9, 8, 0, 0);
        x.remove(10, 8);
        check.yes("insert(11, 8, 0, 0)", x.insert(11, 8, 0, 0));
        check.same("behind a removed one", "-8 11 9", Check.rows(x));
    }

    private static void atMost512() {
        ListWeave x = new ListWeave();
        for (int i = 0; i < 63; i++) {
            x.run(8 + 64 * i, 0, 8, 0);
        }
        x.remove(800000, 8);
        for (int i = 0; i < 8; i++) {
            int id = 10000 + i;
            check.yes("insert number " + (504 + i), x.insert(id, 0, 0, i));
        }
        check.no("insert number 512", x.insert(20000, 0, 0, 0));
        check.due("look(0)", 512, () -> x.look(0));
        check.due("look(3)", 800000, () -> x.look(3));
        check.due("row(511)", 64, () -> x.row(511));
    }
}
