/** Promises 5 and 6: set and remove. */
public final class SetAndRemoveTest {
    private static final Check check = new Check();

    public static void main(String[] args) {
        theGreatestStands();
        wrongSetsChangeNothing();
        removedForGood();
        wrongRemovesChangeNothing();
        edgesOfIds();
        atMost1024();
        check.end();
    }

    private static void theGreatestStands() {
        ListWeave x = new ListWeave();
        x.insert(20, 0, 2, 1);
        check.yes("set(40, 20, 6, -5)", x.set(40, 20, 6, -5));
        stands(x, 40, 6, -5);
        check.yes("set(30, 20, 1, 7)", x.set(30, 20, 1, 7));
        stands(x, 40, 6, -5);
        check.yes("set(41, 20, 0, least int)", x.set(41, 20, 0, Integer.MIN_VALUE));
        stands(x, 41, 0, Integer.MIN_VALUE);
        check.due("of(20, 2)", 3, () -> x.of(20, 2));
        check.due("look(2)", 3, () -> x.look(2));
        check.yes("remove(50, 20)", x.remove(50, 20));
        check.yes("set of a removed one", x.set(60, 20, 3, 8));
        check.due("of(20, 4)", 60, () -> x.of(20, 4));
        check.due("of(20, 2)", 4, () -> x.of(20, 2));
        check.due("it stays removed", 0, x::size);
    }

    private static void stands(ListWeave x, int id, int kind, int value) {
        check.due("at(0, 0)", 20, () -> x.at(0, 0));
        check.due("at(0, 1)", kind, () -> x.at(0, 1));
        check.due("at(0, 2)", value, () -> x.at(0, 2));
        check.due("at(0, 3)", id, () -> x.at(0, 3));
    }

    private static ListWeave four() {
        ListWeave x = new ListWeave();
        x.insert(20, 0, 2, 1);
        x.insert(30, 20, 2, 2);
        x.set(40, 20, 2, 3);
        x.remove(50, 30);
        return x;
    }

    private static void wrongSetsChangeNothing() {
        ListWeave x = four();
        String as = Check.all(x);
        check.no("an element's ID", x.set(30, 20, 2, 9));
        check.no("a SET's ID", x.set(40, 20, 2, 9));
        check.no("a REMOVE's ID", x.set(50, 20, 2, 9));
        check.no("of itself", x.set(21, 21, 2, 9));
        check.no("of none", x.set(60, 25, 2, 9));
        check.no("of the beginning", x.set(60, 0, 2, 9));
        check.no("of a SET", x.set(60, 40, 2, 9));
        check.no("of -20", x.set(60, -20, 2, 9));
        check.no("not above the element", x.set(29, 30, 2, 9));
        check.no("kind 7", x.set(60, 20, 7, 9));
        check.no("kind -1", x.set(60, 20, -1, 9));
        check.same("nothing changed", as, Check.all(x));
        check.yes("the ID is still free", x.set(60, 20, 6, 9));
        check.yes("kind 0", x.set(61, 20, 0, 9));
    }

    private static void removedForGood() {
        ListWeave x = new ListWeave();
        x.run(8, 0, 3, 0x010203);
        check.yes("remove(100, 16)", x.remove(100, 16));
        check.same("it stays in its place", "8 -16 24", Check.rows(x));
        check.yes("remove(99, 16)", x.remove(99, 16));
        check.due("of(16, 3)", 2, () -> x.of(16, 3));
        check.due("of(16, 2)", 0, () -> x.of(16, 2));
        check.due("look(2)", 2, () -> x.look(2));
        check.due("size()", 2, x::size);
        check.due("sum(0, 2)", 4, () -> x.sum(0, 2));
        check.no("its ID is not free again", x.insert(16, 8, 0, 0));
    }

    private static void wrongRemovesChangeNothing() {
        ListWeave x = four();
        String as = Check.all(x);
        check.no("an element's ID", x.remove(30, 20));
        check.no("a SET's ID", x.remove(40, 20));
        check.no("a REMOVE's ID", x.remove(50, 30));
        check.no("by its own ID", x.remove(20, 20));
        check.no("of none", x.remove(60, 25));
        check.no("of the beginning", x.remove(60, 0));
        check.no("of a REMOVE", x.remove(60, 50));
        check.no("of -20", x.remove(60, -20));
        check.no("not above the element", x.remove(29, 30));
        check.same("nothing changed", as, Check.all(x));
        check.yes("the ID is still free", x.remove(60, 20));
    }

    private static void edgesOfIds() {
        ListWeave x = new ListWeave();
        x.insert(8, 0, 0, 0);
        int[] none = {7, 0, -1, 800008, Integer.MIN_VALUE, Integer.MAX_VALUE};
        for (int id : none) {
            check.no("set by " + id, x.set(id, 8, 0, 0));
            check.no("remove by " + id, x.remove(id, 8));
        }
        check.yes("set(9, 8, 0, 0)", x.set(9, 8, 0, 0));
        check.yes("set(800007, 8, 0, 0)", x.set(800007, 8, 0, 0));
        check.yes("remove(800006, 8)", x.remove(800006, 8));
        check.yes("remove(10, 8)", x.remove(10, 8));
        check.due("look(2)", 4, () -> x.look(2));
    }

    /**
     * The limit of 1024 lies beyond the 512 calls that an object is good for, so no answer there is promised. The
     * class keeps the limit all the same, since without it a later call would outgrow the room for IDs.
     */
    private static void atMost1024() {
        ListWeave x = new ListWeave();
        for (int i = 0; i < 64; i++) {
            x.run(8 + 64 * i, 0, 8, 0);
        }
        for (int i = 0; i < 1024; i++) {
            int id = 10000 + i;
            check.yes("change " + i, i % 2 == 0 ? x.set(id, 8, 0, i) : x.remove(id, 16));
        }
        check.no("set number 1024", x.set(20000, 8, 0, 0));
        check.no("remove number 1024", x.remove(20000, 8));
        check.no("insert number 512", x.insert(20000, 8, 0, 0));
        check.due("look(2)", 1024, () -> x.look(2));
        check.due("look(3)", 11023, () -> x.look(3));
    }
}
