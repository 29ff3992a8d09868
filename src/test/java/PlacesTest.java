/** Promises 7 to 12: size, at, place, ahead, before and row. */
public final class PlacesTest {
    private static final Check check = new Check();
    private static final int LEAST = Integer.MIN_VALUE;
    private static final int GREATEST = Integer.MAX_VALUE;

    public static void main(String[] args) {
        sizeCountsTheVisible();
        sizeFrom0To512();
        atTellsTheVisible();
        atNoPlace();
        atNoWhat();
        placeOfElements();
        placeOfNone();
        placeOfRemovedOnes();
        aheadOfElements();
        aheadOfRemovedOnes();
        aheadOfNone();
        beforeAnother();
        beforeItself();
        beforeNone();
        rowsOfAll();
        rowsFrom0();
        rowsBelow0();
        rowOfNone();
        check.end();
    }

    private static void sizeCountsTheVisible() {
        check.sentence("How many elements are VISIBLE.");
        ListWeave x = Lists.five();
        check.due("size()", 3, x::size);
        x.remove(60, 30);
        check.due("size() after another REMOVE of the same", 3, x::size);
        x.remove(61, 40);
        check.due("size()", 2, x::size);
        x.insert(62, 40, 0, 0);
        check.due("size()", 3, x::size);
        x.set(63, 62, 1, 1);
        check.due("size() after a SET", 3, x::size);
    }

    private static void sizeFrom0To512() {
        check.sentence("How many elements are VISIBLE. (none, one, all of 512)");
        check.due("size() of none", 0, () -> new ListWeave().size());
        check.due("size() of one", 1, () -> Lists.one().size());
        check.due("size() when all are removed", 0, () -> Lists.allRemoved().size());
        ListWeave x = Lists.full();
        check.due("size() of 512", 512, x::size);
        x.remove(10000, 8);
        check.due("size() with one removed", 511, x::size);
    }

    private static void atTellsTheVisible() {
        check.sentence("what 0: its ID, 1: the kind, 2: the int of its value, 3: the ID of what STANDS");
        ListWeave x = Lists.five();
        int[][] due = {{40, 5, 400, 40}, {31, 6, -310, 50}, {10, 1, 100, 10}};
        for (int i = 0; i < due.length; i++) {
            for (int j = 0; j < 4; j++) {
                int place = i;
                int what = j;
                check.due("at(" + i + ", " + j + ")", due[i][j], () -> x.at(place, what));
            }
        }
    }

    private static void atNoPlace() {
        check.sentence("IndexOutOfBoundsException if there is no such place");
        int[] none = {3, 4, 5, 512, GREATEST, -1, LEAST};
        for (int place : none) {
            for (int what = 0; what < 4; what++) {
                noPlace(Lists.five(), place, what);
            }
        }
        noPlace(new ListWeave(), 0, 0);
        noPlace(new ListWeave(), -1, 0);
        noPlace(Lists.allRemoved(), 0, 0);
        noPlace(Lists.one(), 1, 0);
        noPlace(Lists.full(), 512, 0);
        noPlace(Lists.full(), -1, 0);
        check.due("at(511, 0) of 512", 64, () -> Lists.full().at(511, 0));
        ListWeave x = Lists.full();
        x.remove(10000, 8);
        noPlace(x, 511, 0);
        check.due("at(510, 0) of 511", 64, () -> x.at(510, 0));
    }

    private static void noPlace(ListWeave x, int place, int what) {
        String call = "at(" + place + ", " + what + ") of " + x.size();
        check.due(call, Check.THROWS_INDEX, () -> x.at(place, what));
    }

    private static void atNoWhat() {
        check.sentence("IndexOutOfBoundsException if there is no such .. what");
        ListWeave x = Lists.five();
        int[] none = {4, 5, 6, 7, GREATEST, -1, LEAST};
        for (int what : none) {
            check.due("at(0, " + what + ")", Check.THROWS_INDEX, () -> x.at(0, what));
            check.due("at(2, " + what + ")", Check.THROWS_INDEX, () -> x.at(2, what));
            check.due("at(3, " + what + ")", Check.THROWS_INDEX, () -> x.at(3, what));
        }
    }

    private static void placeOfElements() {
        check.sentence("The PLACE of an element");
        ListWeave x = Lists.five();
        check.due("place(40)", 0, () -> x.place(40));
        check.due("place(31)", 1, () -> x.place(31));
        check.due("place(10)", 2, () -> x.place(10));
        check.due("place of the last of 512", 511, () -> Lists.full().place(64));
    }

    private static void placeOfNone() {
        check.sentence("NONE if there is none");
        ListWeave x = Lists.five();
        int[] none = {0, 1, 7, 8, 11, 50, 51, 52, 53, -1, -40, LEAST, GREATEST};
        for (int element : none) {
            check.due("place(" + element + ")", -1, () -> x.place(element));
        }
        check.due("place(8) of an empty list", -1, () -> new ListWeave().place(8));
        check.due("place(0) of an empty list", -1, () -> new ListWeave().place(0));
    }

    private static void placeOfRemovedOnes() {
        check.sentence("NONE if .. it is removed");
        ListWeave x = Lists.five();
        check.due("place(30)", -1, () -> x.place(30));
        check.due("place(20)", -1, () -> x.place(20));
        check.due("place(-30)", -1, () -> x.place(-30));
        x.set(60, 30, 0, 0);
        check.due("place(30) after a SET", -1, () -> x.place(30));
    }

    private static void aheadOfElements() {
        check.sentence("How many VISIBLE elements lie ahead of an element");
        ListWeave x = Lists.five();
        check.due("ahead of the first", 0, () -> x.ahead(40));
        check.due("ahead(31)", 1, () -> x.ahead(31));
        check.due("ahead of the last", 2, () -> x.ahead(10));
        check.due("ahead of the last of 512", 511, () -> Lists.full().ahead(64));
        check.due("ahead of the last when all are removed", 0, () -> Lists.allRemoved().ahead(10));
    }

    private static void aheadOfRemovedOnes() {
        check.sentence("an element, which may be removed");
        ListWeave x = Lists.five();
        check.due("ahead(30)", 1, () -> x.ahead(30));
        check.due("ahead(20)", 2, () -> x.ahead(20));
        x.remove(60, 40);
        check.due("ahead of the first, removed", 0, () -> x.ahead(40));
        x.remove(61, 10);
        check.due("ahead of the last, removed", 1, () -> x.ahead(10));
    }

    private static void aheadOfNone() {
        check.sentence("ahead: IllegalArgumentException if there is none such");
        ListWeave x = Lists.five();
        int[] none = {0, 1, 7, 8, 11, 50, 51, 52, 53, -1, -30, -40, LEAST, GREATEST};
        for (int element : none) {
            check.due("ahead(" + element + ")", Check.THROWS_ARGUMENT, () -> x.ahead(element));
        }
        check.due("ahead(8) of an empty list", Check.THROWS_ARGUMENT, () -> new ListWeave().ahead(8));
        check.due("ahead(0) of an empty list", Check.THROWS_ARGUMENT, () -> new ListWeave().ahead(0));
    }

    private static void beforeAnother() {
        check.sentence("Whether element a lies ahead of b (removed ones, too)");
        ListWeave x = Lists.five();
        int[] lies = {40, 30, 31, 20, 10};
        for (int i = 0; i < 5; i++) {
            for (int j = 0; j < 5; j++) {
                before(x, lies[i], lies[j], i < j ? 1 : 0);
            }
        }
        before(Lists.full(), 4040, 64, 1);
        before(Lists.full(), 64, 4040, 0);
    }

    private static void before(ListWeave x, int a, int b, long want) {
        check.due("before(" + a + ", " + b + ")", want, () -> x.before(a, b) ? 1 : 0);
    }

    private static void beforeItself() {
        check.sentence("Whether element a lies ahead of b (itself)");
        before(Lists.one(), 8, 8, 0);
        before(Lists.five(), 30, 30, 0);
        before(Lists.five(), 10, 10, 0);
    }

    private static void beforeNone() {
        check.sentence("before: IllegalArgumentException if there is no such one");
        ListWeave x = Lists.five();
        int[] none = {0, 1, 8, 11, 50, 52, -1, -30, LEAST, GREATEST};
        for (int one : none) {
            before(x, one, 40, Check.THROWS_ARGUMENT);
            before(x, 40, one, Check.THROWS_ARGUMENT);
            before(x, one, 30, Check.THROWS_ARGUMENT);
            before(x, 10, one, Check.THROWS_ARGUMENT);
            before(x, one, one, Check.THROWS_ARGUMENT);
        }
        before(x, 11, 12, Check.THROWS_ARGUMENT);
        before(new ListWeave(), 8, 8, Check.THROWS_ARGUMENT);
        before(new ListWeave(), 0, 0, Check.THROWS_ARGUMENT);
    }

    private static void rowsOfAll() {
        check.sentence("The element of all, removed ones too, that lies in row i");
        check.same("rows", "40 -30 31 -20 10", Check.rows(Lists.five()));
    }

    private static void rowsFrom0() {
        check.sentence("row i, from 0 on");
        check.due("row(0) of one", 8, () -> Lists.one().row(0));
        ListWeave x = Lists.full();
        check.due("row(0) of 512", 4040, () -> x.row(0));
        check.due("row(511) of 512", 64, () -> x.row(511));
    }

    private static void rowsBelow0() {
        check.sentence("its ID, below 0 if it is removed");
        ListWeave x = new ListWeave();
        x.insert(8, 0, 0, 0);
        x.insert(800006, 0, 0, 0);
        check.due("row(0)", 800006, () -> x.row(0));
        check.due("row(1)", 8, () -> x.row(1));
        x.remove(9, 8);
        x.remove(800007, 800006);
        check.due("row(0), removed", -800006, () -> x.row(0));
        check.due("row(1), removed", -8, () -> x.row(1));
        x.remove(10, 8);
        check.due("row(1), removed twice", -8, () -> x.row(1));
    }

    private static void rowOfNone() {
        check.sentence("row: IndexOutOfBoundsException if there is none");
        int[] none = {5, 6, 511, 512, 513, GREATEST, -1, LEAST};
        for (int i : none) {
            check.due("row(" + i + ") of 5", Check.THROWS_INDEX, () -> Lists.five().row(i));
        }
        check.due("row(0) of none", Check.THROWS_INDEX, () -> new ListWeave().row(0));
        check.due("row(1) of one", Check.THROWS_INDEX, () -> Lists.one().row(1));
        check.due("row(512) of 512", Check.THROWS_INDEX, () -> Lists.full().row(512));
        check.due("row(-1) of 512", Check.THROWS_INDEX, () -> Lists.full().row(-1));
    }
}
