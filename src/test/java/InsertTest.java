/** Promise 3: insert, and how all elements lie. */
public final class InsertTest {
    private static final Check check = new Check();
    private static final int LEAST = Integer.MIN_VALUE;
    private static final int GREATEST = Integer.MAX_VALUE;

    public static void main(String[] args) {
        liesByFallingIds();
        eachIsFollowedByItsOwn();
        idIsNone();
        idWasThere();
        noElementBehind();
        notAboveThat();
        kindIsNone();
        thereAre512();
        check.end();
    }

    private static void liesByFallingIds() {
        check.sentence("An INSERT: true");
        ListWeave x = new ListWeave();
        check.yes("insert(30, 0, 2, 1)", x.insert(30, 0, 2, 1));
        check.yes("insert(10, 0, 2, 2)", x.insert(10, 0, 2, 2));
        check.yes("insert(20, 0, 2, 3)", x.insert(20, 0, 2, 3));
        check.yes("insert(40, 0, 2, 4)", x.insert(40, 0, 2, 4));
        check.same("behind the beginning", "40 30 20 10", Check.rows(x));
        check.due("at(1, 2)", 1, () -> x.at(1, 2));
    }

    private static void eachIsFollowedByItsOwn() {
        check.sentence("All elements LIE so");
        ListWeave x = new ListWeave();
        x.insert(10, 0, 0, 0);
        x.insert(20, 0, 0, 0);
        x.insert(50, 10, 0, 0);
        x.insert(30, 10, 0, 0);
        x.insert(60, 30, 0, 0);
        x.insert(35, 30, 0, 0);
        x.insert(70, 20, 0, 0);
        x.insert(40, 10, 0, 0);
        x.insert(80, 50, 0, 0);
        x.insert(15, 10, 0, 0);
        x.insert(12, 0, 0, 0);
        check.same("the whole", "20 70 12 10 50 80 40 30 60 35 15", Check.rows(x));
    }

    private static void idIsNone() {
        check.sentence("false if id is no ID");
        int[] none = {7, 0, -8, LEAST, 800008, GREATEST};
        for (int id : none) {
            check.refused("insert by " + id, Lists::five, x -> x.insert(id, 0, 2, 9));
        }
        check.yes("insert by 8", Lists.five().insert(8, 0, 2, 9));
        check.yes("insert by 800007", Lists.five().insert(800007, 0, 2, 9));
    }

    private static void idWasThere() {
        check.sentence("false if id .. was there");
        check.refused("by an element's ID", Lists::five, x -> x.insert(31, 0, 2, 9));
        check.refused("by a removed element's ID", Lists::five, x -> x.insert(30, 10, 2, 9));
        check.refused("by a SET's ID that stands", Lists::five, x -> x.insert(50, 10, 2, 9));
        check.refused("by a REMOVE's ID", Lists::five, x -> x.insert(52, 10, 2, 9));
        check.refused("by the greatest ID", Lists::five, x -> x.insert(53, 10, 2, 9));
        check.refused("by the least ID", Lists::five, x -> x.insert(10, 0, 2, 9));
    }

    private static void noElementBehind() {
        check.sentence("there is no element behind (nor is it 0)");
        int[] none = {1, 7, 8, 9, 11, 59, -1, -20, LEAST};
        for (int behind : none) {
            check.refused("behind " + behind, Lists::five, x -> x.insert(60, behind, 2, 9));
        }
        check.refused("behind a SET", Lists::five, x -> x.insert(60, 50, 2, 9));
        check.refused("behind a REMOVE", Lists::five, x -> x.insert(60, 52, 2, 9));
        check.refused("behind 8 in an empty list", ListWeave::new, x -> x.insert(60, 8, 2, 9));
        ListWeave x = Lists.five();
        check.yes("behind 0", x.insert(60, 0, 2, 9));
        check.yes("behind the first one", x.insert(61, 40, 2, 9));
        check.yes("behind the last one", x.insert(62, 10, 2, 9));
        check.yes("behind a removed one", x.insert(63, 20, 2, 9));
        check.same("all of them", "60 40 61 -30 31 -20 63 10 62", Check.rows(x));
    }

    private static void notAboveThat() {
        check.sentence("id is not above that");
        check.refused("one below", Lists::five, x -> x.insert(39, 40, 2, 9));
        check.refused("the same, no element", Lists::five, x -> x.insert(21, 21, 2, 9));
        check.refused("the same, an element", Lists::five, x -> x.insert(40, 40, 2, 9));
        check.refused("behind the greatest int", Lists::five, x -> x.insert(60, GREATEST, 2, 9));
        check.refused("the least ID", Lists::five, x -> x.insert(8, 10, 2, 9));
        check.yes("one above", Lists.five().insert(41, 40, 2, 9));
    }

    private static void kindIsNone() {
        check.sentence("kind is none");
        int[] none = {-1, 7, LEAST, GREATEST};
        for (int kind : none) {
            check.refused("of kind " + kind, Lists::five, x -> x.insert(60, 20, kind, 9));
        }
        check.yes("of kind 0", Lists.five().insert(60, 20, 0, 9));
        check.yes("of kind 6", Lists.five().insert(60, 20, 6, 9));
    }

    private static void thereAre512() {
        check.sentence("or there are 512 elements");
        check.refused("behind the beginning", Lists::full, x -> x.insert(10000, 0, 2, 9));
        check.refused("behind the last one", Lists::full, x -> x.insert(10000, 64, 2, 9));
        ListWeave x = Lists.filled(511);
        check.yes("as the last one", x.insert(10000, 64, 2, 9));
        check.due("row(511)", 10000, () -> x.row(511));
        ListWeave y = Lists.filled(511);
        check.yes("as the first one", y.insert(10000, 0, 2, 9));
        check.due("row(0)", 10000, () -> y.row(0));
        check.due("row(511)", 64, () -> y.row(511));
    }
}
