/** Promise 14: sum. */
public final class SumTest {
    private static final Check check = new Check();
    private static final int LEAST = Integer.MIN_VALUE;
    private static final int GREATEST = Integer.MAX_VALUE;

    public static void main(String[] args) {
        overPlaces();
        doesNotWrapAround();
        check.end();
    }

    /** The places tell 1, 10, (another kind), 1000, 10000; a removed one lies between the second and the third. */
    private static void overPlaces() {
        ListWeave x = new ListWeave();
        x.insert(80, 0, 2, 1);
        x.insert(70, 0, 0, 77);
        x.insert(60, 0, 2, 500000);
        x.insert(50, 0, 2, 100);
        x.insert(40, 0, 2, 1000);
        x.insert(30, 0, 2, 10000);
        x.set(90, 70, 2, 10);
        x.set(91, 50, 3, 100);
        x.remove(92, 60);
        due(x, 0, 5, 11011);
        due(x, 0, 1, 1);
        due(x, 1, 2, 10);
        due(x, 1, 4, 1010);
        due(x, 2, 3, 0);
        due(x, 3, 5, 11000);
        due(x, 4, 5, 10000);
        due(x, 4, 6, 10000);
        due(x, 5, 9, 0);
        due(x, 0, 0, 0);
        due(x, 3, 3, 0);
        due(x, 3, 1, 0);
        due(x, -1, 1, 1);
        due(x, -5, -1, 0);
        due(x, -1, 0, 0);
        due(x, LEAST, GREATEST, 11011);
        due(x, GREATEST, LEAST, 0);
        due(x, GREATEST, GREATEST, 0);
        due(x, LEAST, LEAST, 0);
        due(x, 1, GREATEST, 11010);
        due(x, LEAST, 2, 11);
    }

    private static void due(ListWeave x, int from, int to, long want) {
        check.due("sum(" + from + ", " + to + ")", want, () -> x.sum(from, to));
    }

    private static void doesNotWrapAround() {
        ListWeave x = new ListWeave();
        for (int i = 0; i < 5; i++) {
            x.insert(100 + i, 0, 2, GREATEST);
            x.insert(10 + i, 0, 2, LEAST);
        }
        due(x, 0, 5, 5L * GREATEST);
        due(x, 5, 10, 5L * LEAST);
        due(x, 0, 10, -5);
    }
}
