/** Promise 15: look. */
public final class LookTest {
    private static final Check check = new Check();

    public static void main(String[] args) {
        grownStepByStep();
        elementsAndVisibleOnes();
        setsAndRemoves();
        theGreatestId();
        noneWithoutAny();
        theLongestWay();
        wayOfRemovedOnes();
        noneForAnyOther();
        check.end();
    }

    private static void due(ListWeave x, int which, long want) {
        check.due("look(" + which + ")", want, () -> x.look(which));
    }

    private static void grownStepByStep() {
        check.sentence("which 0 .. 4");
        ListWeave x = new ListWeave();
        looks(x, 0, 0, 0, -1, 0);
        x.insert(100, 0, 0, 0);
        looks(x, 1, 1, 0, 100, 1);
        x.insert(50, 0, 0, 0);
        looks(x, 2, 2, 0, 100, 1);
        x.insert(60, 50, 0, 0);
        looks(x, 3, 3, 0, 100, 2);
        x.set(200, 60, 0, 0);
        looks(x, 3, 3, 1, 200, 2);
        x.remove(300, 60);
        looks(x, 3, 2, 2, 300, 2);
        x.remove(250, 60);
        looks(x, 3, 2, 3, 300, 2);
        x.run(62, 60, 5, 0);
        looks(x, 8, 7, 3, 300, 7);
        x.insert(400, 100, 0, 0);
        looks(x, 9, 8, 3, 400, 7);
    }

    private static void looks(ListWeave x, int... want) {
        for (int which = 0; which < want.length; which++) {
            due(x, which, want[which]);
        }
    }

    private static void elementsAndVisibleOnes() {
        check.sentence("which 0: elements, 1: VISIBLE ones");
        ListWeave x = Lists.full();
        due(x, 0, 512);
        due(x, 1, 512);
        x.remove(10000, 8);
        x.remove(10001, 8);
        due(x, 0, 512);
        due(x, 1, 511);
        due(Lists.allRemoved(), 0, 5);
        due(Lists.allRemoved(), 1, 0);
    }

    private static void setsAndRemoves() {
        check.sentence("2: SETs and REMOVES");
        ListWeave x = Lists.one();
        due(x, 2, 0);
        for (int i = 0; i < 250; i++) {
            x.set(10 + 2 * i, 8, 0, i);
            x.remove(11 + 2 * i, 8);
        }
        due(x, 2, 500);
        x.set(10, 8, 0, 0);
        x.remove(11, 8);
        due(x, 2, 500);
    }

    private static void theGreatestId() {
        check.sentence("3: the greatest ID");
        ListWeave x = Lists.one();
        due(x, 3, 8);
        x.run(16, 8, 3, 0);
        due(x, 3, 32);
        x.set(31, 8, 0, 0);
        due(x, 3, 32);
        x.set(33, 8, 0, 0);
        due(x, 3, 33);
        x.remove(34, 8);
        due(x, 3, 34);
        x.insert(800008, 0, 0, 0);
        due(x, 3, 34);
        x.insert(800007, 0, 0, 0);
        due(x, 3, 800007);
        x.insert(800006, 0, 0, 0);
        due(x, 3, 800007);
    }

    private static void noneWithoutAny() {
        check.sentence("(NONE without any)");
        ListWeave x = new ListWeave();
        due(x, 3, -1);
        x.insert(7, 0, 0, 0);
        x.run(800000, 0, 2, 0);
        x.set(9, 8, 0, 0);
        x.remove(9, 8);
        due(x, 3, -1);
        x.insert(8, 0, 0, 0);
        x.clear();
        due(x, 3, -1);
    }

    private static void theLongestWay() {
        check.sentence("4: the longest way from an element back to the beginning, by what it was inserted behind");
        due(new ListWeave(), 4, 0);
        due(Lists.one(), 4, 1);
        due(Lists.five(), 4, 2);
        due(Lists.full(), 4, 8);
        ListWeave x = new ListWeave();
        int behind = 0;
        for (int i = 0; i < 64; i++) {
            check.yes("run behind the last", x.run(8 + 64 * i, behind, 8, i));
            behind = 8 + 64 * i + 56;
        }
        due(x, 4, 512);
        check.due("at(511, 0)", 4096, () -> x.at(511, 0));
    }

    private static void wayOfRemovedOnes() {
        check.sentence("4: the longest way from an element (removed ones are elements)");
        due(Lists.allRemoved(), 4, 2);
        ListWeave x = Lists.filled(8);
        x.remove(100, 64);
        x.remove(101, 16);
        due(x, 4, 8);
    }

    private static void noneForAnyOther() {
        check.sentence("NONE for any other which.");
        int[] others = {5, 6, 7, -1, -2, Integer.MAX_VALUE, Integer.MIN_VALUE};
        for (int which : others) {
            due(new ListWeave(), which, -1);
            due(Lists.five(), which, -1);
            due(Lists.full(), which, -1);
        }
    }
}
