/** Promise 13: of. */
public final class OfTest {
    private static final Check check = new Check();

    public static void main(String[] args) {
        ListWeave x = new ListWeave();
        x.insert(10, 0, 1, 100);
        x.insert(12, 10, 2, 200);
        x.insert(14, 12, 3, 300);
        x.insert(16, 10, 4, 400);
        x.insert(18, 0, 5, 500);
        x.set(30, 12, 6, -200);
        x.set(28, 12, 0, -201);
        x.remove(32, 14);
        x.remove(34, 14);
        x.remove(36, 14);
        x.set(20, 14, 0, Integer.MIN_VALUE);
        tells(x, 10, 0, 2, 0, 0, 10, 1, 100);
        tells(x, 12, 10, 1, 2, 0, 30, 6, -200);
        tells(x, 14, 12, 0, 1, 3, 20, 0, Integer.MIN_VALUE);
        tells(x, 16, 10, 0, 0, 0, 16, 4, 400);
        tells(x, 18, 0, 0, 0, 0, 18, 5, 500);
        x.remove(40, 16);
        check.due("of(10, 1), one being removed", 2, () -> x.of(10, 1));
        tellsOfTheBeginning(x);
        throwsForNone(x);
        check.end();
    }

    private static void tells(ListWeave x, int element, int... due) {
        for (int i = 0; i < due.length; i++) {
            int what = i;
            check.due("of(" + element + ", " + i + ")", due[i], () -> x.of(element, what));
        }
        int[] noWhats = {7, 8, -1, Integer.MAX_VALUE, Integer.MIN_VALUE};
        for (int what : noWhats) {
            check.due("of(" + element + ", " + what + ")", Check.THROWS_ARGUMENT, () -> x.of(element, what));
        }
    }

    private static void tellsOfTheBeginning(ListWeave x) {
        check.due("of(0, 0)", 0, () -> x.of(0, 0));
        check.due("of(0, 1)", 2, () -> x.of(0, 1));
        int[] noWhats = {2, 3, 4, 5, 6, 7, -1, Integer.MAX_VALUE, Integer.MIN_VALUE};
        for (int what : noWhats) {
            check.due("of(0, " + what + ")", Check.THROWS_ARGUMENT, () -> x.of(0, what));
        }
    }

    private static void throwsForNone(ListWeave x) {
        int[] none = {8, 11, 30, 32, -1, -10, Integer.MAX_VALUE, Integer.MIN_VALUE};
        for (int element : none) {
            for (int i = -1; i < 8; i++) {
                int what = i;
                check.due("of(" + element + ", " + i + ")", Check.THROWS_ARGUMENT, () -> x.of(element, what));
            }
        }
    }
}
