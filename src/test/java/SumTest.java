/** Promise 14: sum. */
public final class SumTest {
    private static final Check check = new Check();
    private static final int LEAST = Integer.MIN_VALUE;
    private static final int GREATEST = Integer.MAX_VALUE;

    public static void main(String[] args) {
        visibleOnesOnly();
        ofKind2Only();
        theLastDoesNotBelong();
        asFarAsThereArePlaces();
        noPlacesAtAll();
        doesNotWrapAround();
        check.end();
    }

    private static void due(ListWeave x, int from, int to, long want) {
        check.due("sum(" + from + ", " + to + ")", want, () -> x.sum(from, to));
    }

    /** The places tell 1, 10, (another kind), 1000, 10000; a removed one lies between the second and the third. */
    private static ListWeave powers() {
        ListWeave x = new ListWeave();
        x.insert(80, 0, 2, 1);
        x.insert(70, 0, 0, 77);
        x.insert(60, 0, 2, 500000);
        x.insert(50, 0, 2, 100);
        x.insert(40, 0, 2, 1000);
        x.insert(30, 0, 2, 10000);
        x.set(90, 70, 2, 10);
        x.set(91, 50, 3, 100);
        x.remove(92, 60);
        return x;
    }

    private static void visibleOnesOnly() {
        check.sentence("The sum of the ints of VISIBLE elements");
        ListWeave x = powers();
        due(x, 0, 5, 11011);
        due(x, 1, 4, 1010);
        x.remove(93, 80);
        due(x, 0, 4, 11010);
        x.remove(94, 30);
        due(x, 0, 3, 1010);
        due(Lists.allRemoved(), 0, 5, 0);
    }

    private static void ofKind2Only() {
        check.sentence("of kind 2");
        for (int kind = 0; kind <= 6; kind++) {
            ListWeave x = new ListWeave();
            x.insert(8, 0, kind, 5);
            due(x, 0, 1, kind == 2 ? 5 : 0);
            x.set(20, 8, 2, 7);
            due(x, 0, 1, 7);
            x.set(19, 8, kind, 9);
            due(x, 0, 1, 7);
            x.set(21, 8, kind, 11);
            due(x, 0, 1, kind == 2 ? 11 : 0);
        }
    }

    private static void theLastDoesNotBelong() {
        check.sentence("from one up to another one (which does not belong to them)");
        ListWeave x = powers();
        due(x, 0, 1, 1);
        due(x, 1, 2, 10);
        due(x, 2, 3, 0);
        due(x, 3, 4, 1000);
        due(x, 4, 5, 10000);
        due(x, 3, 5, 11000);
        due(x, 0, 0, 0);
        due(x, 3, 3, 0);
        due(x, 4, 3, 0);
        due(x, 3, 1, 0);
        due(x, 5, 0, 0);
    }

    private static void asFarAsThereArePlaces() {
        check.sentence("as far as there are places");
        ListWeave x = powers();
        due(x, 4, 6, 10000);
        due(x, 5, 6, 0);
        due(x, 5, 9, 0);
        due(x, 1, GREATEST, 11010);
        due(x, -1, 1, 1);
        due(x, -1, 0, 0);
        due(x, -5, -1, 0);
        due(x, LEAST, 2, 11);
        due(x, LEAST, GREATEST, 11011);
        due(x, GREATEST, LEAST, 0);
        due(x, GREATEST, GREATEST, 0);
        due(x, LEAST, LEAST, 0);
        ListWeave full = Lists.full();
        due(full, 0, 512, 512);
        due(full, 0, 513, 512);
        due(full, 511, 512, 1);
        due(full, 512, 513, 0);
        due(full, -1, 511, 511);
    }

    private static void noPlacesAtAll() {
        check.sentence("as far as there are places (none)");
        ListWeave x = new ListWeave();
        due(x, 0, 0, 0);
        due(x, 0, 1, 0);
        due(x, LEAST, GREATEST, 0);
        due(x, GREATEST, LEAST, 0);
    }

    private static void doesNotWrapAround() {
        check.sentence("long sum(int from, int to)");
        ListWeave x = new ListWeave();
        for (int i = 0; i < 250; i++) {
            x.insert(1000 + i, 0, 2, GREATEST);
            x.insert(10 + i, 0, 2, LEAST);
        }
        due(x, 0, 2, 2L * GREATEST);
        due(x, 0, 250, 250L * GREATEST);
        due(x, 250, 252, 2L * LEAST);
        due(x, 250, 500, 250L * LEAST);
        due(x, 0, 500, -250);
    }
}
