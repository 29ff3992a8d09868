/** Promises 7 to 12: size, at, place, ahead, before and row. */
public final class PlacesTest {
    private static final Check check = new Check();
    private static final int LEAST = Integer.MIN_VALUE;
    private static final int GREATEST = Integer.MAX_VALUE;

    public static void main(String[] args) {
        sizeCountsTheVisible();
        atTellsTheVisible();
        atThrows();
        placeOfElements();
        aheadOfElements();
        beforeAnother();
        rowsOfAll();
        check.end();
    }

    /** Lies as 40 -30 31 -20 10, with a SET 50 of 31 and a SET 51 of 30. */
    private static ListWeave five() {
        ListWeave x = new ListWeave();
        x.insert(10, 0, 1, 100);
        x.insert(20, 0, 2, 200);
        x.insert(30, 0, 3, 300);
        x.insert(31, 30, 4, 310);
        x.insert(40, 0, 5, 400);
        x.set(50, 31, 6, -310);
        x.set(51, 30, 0, -300);
        x.remove(52, 30);
        x.remove(53, 20);
        return x;
    }

    private static void sizeCountsTheVisible() {
        ListWeave x = five();
        check.due("size()", 3, x::size);
        x.remove(60, 30);
        check.due("size() after another REMOVE of the same", 3, x::size);
        x.remove(61, 40);
        check.due("size()", 2, x::size);
        x.insert(62, 40, 0, 0);
        check.due("size()", 3, x::size);
        x.remove(63, 62);
        x.remove(64, 31);
        x.remove(65, 10);
        check.due("size() when all are removed", 0, x::size);
    }

    private static void atTellsTheVisible() {
        ListWeave x = five();
        int[][] due = {{40, 5, 400, 40}, {31, 6, -310, 50}, {10, 1, 100, 10}};
        for (int i = 0; i < due.length; i++) {
            for (int j = 0; j < 4; j++) {
                int place = i;
                int what = j;
                check.due("at(" + i + ", " + j + ")", due[i][j], () -> x.at(place, what));
            }
        }
    }

    private static void atThrows() {
        ListWeave x = five();
        int[] noPlaces = {3, 4, 512, GREATEST, -1, LEAST};
        for (int place : noPlaces) {
            check.due("at(" + place + ", 0)", Check.THROWS_INDEX, () -> x.at(place, 0));
            check.due("at(" + place + ", 4)", Check.THROWS_INDEX, () -> x.at(place, 4));
        }
        int[] noWhats = {4, 5, GREATEST, -1, LEAST};
        for (int what : noWhats) {
            check.due("at(0, " + what + ")", Check.THROWS_INDEX, () -> x.at(0, what));
        }
    }

    private static void placeOfElements() {
        ListWeave x = five();
        check.due("place(40)", 0, () -> x.place(40));
        check.due("place(31)", 1, () -> x.place(31));
        check.due("place(10)", 2, () -> x.place(10));
        int[] none = {30, 20, 0, 8, 11, 50, 52, -1, -40, LEAST, GREATEST};
        for (int element : none) {
            check.due("place(" + element + ")", -1, () -> x.place(element));
        }
    }

    private static void aheadOfElements() {
        ListWeave x = five();
        int[][] due = {{40, 0}, {30, 1}, {31, 1}, {20, 2}, {10, 2}};
        for (int[] one : due) {
            check.due("ahead(" + one[0] + ")", one[1], () -> x.ahead(one[0]));
        }
        int[] none = {0, 8, 11, 50, 52, -1, -30, -40, LEAST, GREATEST};
        for (int element : none) {
            check.due("ahead(" + element + ")", Check.THROWS_ARGUMENT, () -> x.ahead(element));
        }
    }

    private static void beforeAnother() {
        ListWeave x = five();
        int[] lies = {40, 30, 31, 20, 10};
        for (int i = 0; i < 5; i++) {
            for (int j = 0; j < 5; j++) {
                int a = lies[i];
                int b = lies[j];
                check.due("before(" + a + ", " + b + ")", i < j ? 1 : 0, () -> x.before(a, b) ? 1 : 0);
            }
        }
        int[] none = {0, 8, 50, 52, -1, -30, LEAST, GREATEST};
        for (int one : none) {
            check.due("before(" + one + ", 40)", Check.THROWS_ARGUMENT, () -> x.before(one, 40) ? 1 : 0);
            check.due("before(40, " + one + ")", Check.THROWS_ARGUMENT, () -> x.before(40, one) ? 1 : 0);
            check.due("before(twice " + one + ")", Check.THROWS_ARGUMENT, () -> x.before(one, one) ? 1 : 0);
        }
    }

    private static void rowsOfAll() {
        ListWeave x = five();
        check.same("rows", "40 -30 31 -20 10", Check.rows(x));
        int[] none = {5, 6, 512, GREATEST, -1, LEAST};
        for (int i : none) {
            check.due("row(" + i + ")", Check.THROWS_INDEX, () -> x.row(i));
        }
    }
}
