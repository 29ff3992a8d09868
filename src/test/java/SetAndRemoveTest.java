/** Promises 5 and 6: set and remove. */
public final class SetAndRemoveTest {
    private static final Check check = new Check();
    private static final int LEAST = Integer.MIN_VALUE;
    private static final int GREATEST = Integer.MAX_VALUE;

    private interface Change {
        boolean doneOn(ListWeave x, int id, int element);
    }

    public static void main(String[] args) {
        theGreatestStands();
        removedForGood();
        removedAgain();
        refusals("A SET: ", (x, id, element) -> x.set(id, element, 2, 9));
        kindIsNone();
        refusals("A REMOVE: likewise: ", (x, id, element) -> x.remove(id, element));
        atMost1024();
        check.end();
    }

    private static void theGreatestStands() {
        check.sentence("A SET: true");
        ListWeave x = new ListWeave();
        x.insert(20, 0, 2, 1);
        check.yes("set(40, 20, 6, -5)", x.set(40, 20, 6, -5));
        stands(x, 40, 6, -5);
        check.yes("set(30, 20, 1, 7)", x.set(30, 20, 1, 7));
        stands(x, 40, 6, -5);
        check.yes("set(41, 20, 0, least int)", x.set(41, 20, 0, LEAST));
        stands(x, 41, 0, LEAST);
        check.due("of(20, 2)", 3, () -> x.of(20, 2));
        check.due("look(2)", 3, () -> x.look(2));
        check.yes("remove(50, 20)", x.remove(50, 20));
        check.yes("set of a removed one", x.set(60, 20, 3, 8));
        check.due("of(20, 4)", 60, () -> x.of(20, 4));
        check.due("of(20, 2)", 4, () -> x.of(20, 2));
        check.due("it stays removed", 0, x::size);
    }

    private static void stands(ListWeave x, int id, int kind, int value) {
        check.due("at(0, 0)", 20, () -> x.at(0, 0));
        check.due("at(0, 1)", kind, () -> x.at(0, 1));
        check.due("at(0, 2)", value, () -> x.at(0, 2));
        check.due("at(0, 3)", id, () -> x.at(0, 3));
    }

    private static void removedForGood() {
        check.sentence("A REMOVE: likewise.");
        ListWeave x = new ListWeave();
        x.run(8, 0, 3, 0x010203);
        check.yes("remove(100, 16)", x.remove(100, 16));
        check.same("it stays in its place", "8 -16 24", Check.rows(x));
        check.due("of(16, 3)", 1, () -> x.of(16, 3));
        check.due("of(16, 2)", 0, () -> x.of(16, 2));
        check.due("look(2)", 1, () -> x.look(2));
        check.due("size()", 2, x::size);
        check.due("sum(0, 2)", 4, () -> x.sum(0, 2));
    }

    private static void removedAgain() {
        check.sentence("(Of an element that is removed, too.)");
        ListWeave x = Lists.five();
        check.yes("by a greater ID", x.remove(60, 30));
        check.yes("by a lesser ID", x.remove(32, 30));
        check.due("of(30, 3)", 3, () -> x.of(30, 3));
        check.due("look(2)", 6, () -> x.look(2));
        check.due("size()", 3, x::size);
    }

    private static void refusals(String operation, Change change) {
        idIsNone(operation, change);
        idWasThere(operation, change);
        noSuchElement(operation, change);
        notAboveIt(operation, change);
    }

    private static void idIsNone(String operation, Change change) {
        check.sentence(operation + "false if id is no ID");
        int[] none = {7, 0, -1, -20, LEAST, 800008, GREATEST};
        for (int id : none) {
            check.refused("by " + id, Lists::five, x -> change.doneOn(x, id, 10));
        }
        ListWeave x = Lists.one();
        check.yes("by 9", change.doneOn(x, 9, 8));
        check.yes("by 800007", change.doneOn(x, 800007, 8));
        check.due("look(2)", 2, () -> x.look(2));
        check.due("look(3)", 800007, () -> x.look(3));
    }

    private static void idWasThere(String operation, Change change) {
        check.sentence(operation + "false if id .. was there");
        int[] were = {20, 30, 31, 40, 50, 51, 52, 53};
        for (int id : were) {
            check.refused("by " + id, Lists::five, x -> change.doneOn(x, id, 10));
        }
        check.refused("by the ID of its own SET", Lists::five, x -> change.doneOn(x, 50, 31));
        check.refused("by the ID of its own REMOVE", Lists::five, x -> change.doneOn(x, 52, 30));
        check.yes("by one above all", change.doneOn(Lists.five(), 54, 10));
        check.yes("by one between", change.doneOn(Lists.five(), 49, 10));
    }

    private static void noSuchElement(String operation, Change change) {
        check.sentence(operation + "there is no such element");
        int[] none = {0, 1, 7, 8, 9, 11, 50, 52, 59, -1, -10, -30, LEAST, GREATEST};
        for (int element : none) {
            check.refused("of " + element, Lists::five, x -> change.doneOn(x, 60, element));
        }
        check.refused("in an empty list", ListWeave::new, x -> change.doneOn(x, 60, 8));
        int[] there = {10, 20, 30, 31, 40};
        for (int element : there) {
            check.yes("of " + element, change.doneOn(Lists.five(), 60, element));
        }
    }

    private static void notAboveIt(String operation, Change change) {
        check.sentence(operation + "id is not above it");
        check.refused("one below", Lists::five, x -> change.doneOn(x, 39, 40));
        check.refused("far below", Lists::five, x -> change.doneOn(x, 8, 40));
        check.refused("the same", Lists::five, x -> change.doneOn(x, 40, 40));
        check.refused("the same, no element", Lists::five, x -> change.doneOn(x, 21, 21));
        check.yes("one above", change.doneOn(Lists.five(), 41, 40));
    }

    private static void kindIsNone() {
        check.sentence("A SET: kind is none");
        int[] none = {-1, 7, LEAST, GREATEST};
        for (int kind : none) {
            check.refused("kind " + kind, Lists::five, x -> x.set(60, 10, kind, 9));
            check.refused("kind " + kind + " below what stands", Lists::five, x -> x.set(49, 31, kind, 9));
        }
        check.yes("kind 0", Lists.five().set(60, 10, 0, 9));
        check.yes("kind 6", Lists.five().set(60, 10, 6, 9));
    }

    /**
     * The limit of 1024 lies beyond the 512 calls that an object is good for, so no answer there is promised. The
     * class keeps the limit all the same, since without it a later call would outgrow the room for IDs.
     */
    private static void atMost1024() {
        check.sentence("or 1024 SETs and REMOVES have been done");
        ListWeave x = Lists.full();
        for (int i = 0; i < 1024; i++) {
            int id = 10000 + i;
            check.yes("change " + i, i % 2 == 0 ? x.set(id, 8, 0, i) : x.remove(id, 16));
        }
        check.no("set number 1024", x.set(20000, 8, 0, 0));
        check.no("remove number 1024", x.remove(20000, 8));
        check.no("insert number 512", x.insert(20000, 8, 0, 0));
        check.due("look(2)", 1024, () -> x.look(2));
        check.due("look(3)", 11023, () -> x.look(3));
        x.clear();
        x.insert(8, 0, 0, 0);
        check.yes("set after clear()", x.set(20000, 8, 0, 0));
    }
}
