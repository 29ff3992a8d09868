/** Promise 15: look. */
public final class LookTest {
    private static final Check check = new Check();

    public static void main(String[] args) {
        ListWeave x = new ListWeave();
        looks(x, 0, 0, 0, -1, 0);
        x.insert(100, 0, 0, 0);
        looks(x, 1, 1, 0, 100, 1);
        x.insert(50, 0, 0, 0);
        looks(x, 2, 2, 0, 100, 1);
        x.insert(60, 50, 0, 0);
        looks(x, 3, 3, 0, 100, 2);
        x.set(200, 60, 0, 0);
        looks(x, 3, 3, 1, 200, 2);
        x.remove(300, 60);
        looks(x, 3, 2, 2, 300, 2);
        x.remove(250, 60);
        looks(x, 3, 2, 3, 300, 2);
        x.run(62, 60, 5, 0);
        looks(x, 8, 7, 3, 300, 7);
        x.insert(400, 100, 0, 0);
        looks(x, 9, 8, 3, 400, 7);
        longestWayOfAll();
        check.end();
    }

    private static void looks(ListWeave x, int... due) {
        for (int i = 0; i < due.length; i++) {
            int which = i;
            check.due("look(" + i + ")", due[i], () -> x.look(which));
        }
        int[] none = {5, 6, -1, Integer.MAX_VALUE, Integer.MIN_VALUE};
        for (int which : none) {
            check.due("look(" + which + ")", -1, () -> x.look(which));
        }
    }

    private static void longestWayOfAll() {
        ListWeave x = new ListWeave();
        int behind = 0;
        for (int i = 0; i < 64; i++) {
            check.yes("run behind the last", x.run(8 + 64 * i, behind, 8, i));
            behind = 8 + 64 * i + 56;
        }
        check.due("look(4)", 512, () -> x.look(4));
        check.due("at(511, 0)", 4096, () -> x.at(511, 0));
    }
}
