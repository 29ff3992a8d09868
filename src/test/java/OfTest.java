/** Promise 13: of. */
public final class OfTest {
    private static final Check check = new Check();
    private static final int LEAST = Integer.MIN_VALUE;
    private static final int GREATEST = Integer.MAX_VALUE;

    public static void main(String[] args) {
        whatItTells();
        insertedBehindAtOnce();
        setsAndRemovesDone();
        noSuchElement();
        noSuchWhat();
        theBeginning();
        nothingElseOfTheBeginning();
        check.end();
    }

    private static void due(ListWeave x, int element, int what, long want) {
        check.due("of(" + element + ", " + what + ")", want, () -> x.of(element, what));
    }

    /** Lies as 18 10 16 12 -14. */
    private static ListWeave woven() {
        ListWeave x = new ListWeave();
        x.insert(10, 0, 1, 100);
        x.insert(12, 10, 2, 200);
        x.insert(14, 12, 3, 300);
        x.insert(16, 10, 4, 400);
        x.insert(18, 0, 5, 500);
        x.set(30, 12, 6, -200);
        x.set(28, 12, 0, -201);
        x.remove(32, 14);
        x.remove(34, 14);
        x.remove(36, 14);
        x.set(20, 14, 0, LEAST);
        return x;
    }

    private static void whatItTells() {
        check.sentence("Of an element: what 0 .. 6");
        ListWeave x = woven();
        tells(x, 10, 0, 2, 0, 0, 10, 1, 100);
        tells(x, 12, 10, 1, 2, 0, 30, 6, -200);
        tells(x, 14, 12, 0, 1, 3, 20, 0, LEAST);
        tells(x, 16, 10, 0, 0, 0, 16, 4, 400);
        tells(x, 18, 0, 0, 0, 0, 18, 5, 500);
    }

    private static void tells(ListWeave x, int element, int... want) {
        for (int what = 0; what < want.length; what++) {
            due(x, element, what, want[what]);
        }
    }

    private static void insertedBehindAtOnce() {
        check.sentence("1: how many were inserted behind it at once");
        ListWeave x = woven();
        x.remove(40, 16);
        due(x, 10, 1, 2);
        x.run(50, 10, 4, 0);
        due(x, 10, 1, 3);
        due(x, 50, 1, 1);
        due(x, 74, 1, 0);
        x.insert(80, 14, 0, 0);
        due(x, 14, 1, 1);
        due(x, 12, 1, 1);
        ListWeave wide = Lists.one();
        for (int i = 0; i < 500; i++) {
            wide.insert(9 + i, 8, 0, 0);
        }
        due(wide, 8, 1, 500);
        due(wide, 0, 1, 1);
    }

    private static void setsAndRemovesDone() {
        check.sentence("2: SETs done, 3: REMOVES done");
        ListWeave x = Lists.one();
        x.set(100, 8, 0, 0);
        x.set(99, 8, 0, 0);
        x.set(99, 8, 0, 0);
        x.remove(98, 8);
        x.remove(98, 8);
        x.remove(97, 8);
        x.remove(96, 8);
        x.set(95, 8, 7, 0);
        due(x, 8, 2, 2);
        due(x, 8, 3, 3);
    }

    private static void noSuchElement() {
        check.sentence("of: IllegalArgumentException if there is no such element");
        int[] none = {1, 7, 8, 11, 30, 32, -1, -10, -14, GREATEST, LEAST};
        for (int element : none) {
            for (int what = 0; what <= 6; what++) {
                due(woven(), element, what, Check.THROWS_ARGUMENT);
            }
        }
        due(new ListWeave(), 8, 0, Check.THROWS_ARGUMENT);
    }

    private static void noSuchWhat() {
        check.sentence("of: IllegalArgumentException if there is no such .. what");
        int[] elements = {10, 12, 14, 16, 18};
        int[] none = {7, 8, -1, GREATEST, LEAST};
        for (int element : elements) {
            for (int what : none) {
                due(woven(), element, what, Check.THROWS_ARGUMENT);
            }
        }
    }

    private static void theBeginning() {
        check.sentence("(0, 1 are told for the beginning, too: 0 and how many.)");
        due(new ListWeave(), 0, 0, 0);
        due(new ListWeave(), 0, 1, 0);
        due(woven(), 0, 0, 0);
        due(woven(), 0, 1, 2);
        due(Lists.allRemoved(), 0, 1, 4);
        due(Lists.full(), 0, 1, 64);
        ListWeave x = new ListWeave();
        x.run(8, 0, 8, 0);
        due(x, 0, 1, 1);
        x.insert(9, 0, 0, 0);
        due(x, 0, 1, 2);
    }

    private static void nothingElseOfTheBeginning() {
        check.sentence("0, 1 are told for the beginning (and no other what)");
        int[] none = {2, 3, 4, 5, 6, 7, -1, GREATEST, LEAST};
        for (int what : none) {
            due(woven(), 0, what, Check.THROWS_ARGUMENT);
            due(new ListWeave(), 0, what, Check.THROWS_ARGUMENT);
        }
    }
}
