/** Promise 4: run. */
public final class RunTest {
    private static final Check check = new Check();

    public static void main(String[] args) {
        bytesFromTheHighestOn();
        higherBytesAreLeftOut();
        liesAmongOthers();
        wrongOnesChangeNothing();
        edgesOfIds();
        allOrNoneAtTheLimit();
        check.end();
    }

    private static void bytesFromTheHighestOn() {
        ListWeave x = new ListWeave();
        check.yes("run(8, 0, 8, 0xff01807f00fe0203)", x.run(8, 0, 8, 0xff01807f00fe0203L));
        int[] bytes = {0xff, 0x01, 0x80, 0x7f, 0x00, 0xfe, 0x02, 0x03};
        for (int i = 0; i < 8; i++) {
            int place = i;
            check.due("at(" + i + ", 0)", 8 + 8 * i, () -> x.at(place, 0));
            check.due("at(" + i + ", 1)", 2, () -> x.at(place, 1));
            check.due("at(" + i + ", 2)", bytes[i], () -> x.at(place, 2));
            check.due("at(" + i + ", 3)", 8 + 8 * i, () -> x.at(place, 3));
            check.due("of(.., 0)", i == 0 ? 0 : 8 * i, () -> x.of(8 + 8 * place, 0));
            check.due("of(.., 1)", i == 7 ? 0 : 1, () -> x.of(8 + 8 * place, 1));
        }
        check.due("look(4)", 8, () -> x.look(4));
        check.due("of(0, 1)", 1, () -> x.of(0, 1));
    }

    private static void higherBytesAreLeftOut() {
        ListWeave x = new ListWeave();
        check.yes("run(9, 0, 2, 0x1122334455667788)", x.run(9, 0, 2, 0x1122334455667788L));
        check.due("at(0, 2)", 0x77, () -> x.at(0, 2));
        check.due("at(1, 2)", 0x88, () -> x.at(1, 2));
        check.yes("run(100, 17, 3, -1)", x.run(100, 17, 3, -1));
        check.due("sum(2, 5)", 3 * 255, () -> x.sum(2, 5));
    }

    private static void liesAmongOthers() {
        ListWeave x = new ListWeave();
        x.insert(20, 0, 0, 0);
        x.insert(50, 20, 0, 0);
        x.insert(30, 20, 0, 0);
        check.yes("run(33, 20, 3, 0)", x.run(33, 20, 3, 0));
        check.same("between siblings", "20 50 33 41 49 30", Check.rows(x));
        check.yes("run(44, 33, 2, 0)", x.run(44, 33, 2, 0));
        check.same("within a run", "20 50 33 44 52 41 49 30", Check.rows(x));
    }

    private static void wrongOnesChangeNothing() {
        ListWeave x = new ListWeave();
        x.insert(20, 0, 2, 1);
        x.insert(56, 20, 2, 2);
        x.set(61, 20, 2, 3);
        x.remove(62, 56);
        String as = Check.all(x);
        check.no("n 1", x.run(100, 0, 1, 0));
        check.no("n 0", x.run(100, 0, 0, 0));
        check.no("n -1", x.run(100, 0, -1, 0));
        check.no("n 9", x.run(100, 0, 9, 0));
        check.no("n greatest int", x.run(100, 0, Integer.MAX_VALUE, 0));
        check.no("n least int", x.run(100, 0, Integer.MIN_VALUE, 0));
        check.no("the first ID was there", x.run(20, 0, 2, 0));
        check.no("the last ID was there", x.run(32, 20, 4, 0));
        check.no("an ID is a SET's", x.run(45, 20, 4, 0));
        check.no("an ID is a REMOVE's", x.run(46, 20, 4, 0));
        check.no("behind none", x.run(100, 21, 2, 0));
        check.no("behind a SET", x.run(100, 61, 2, 0));
        check.no("behind -1", x.run(100, -1, 2, 0));
        check.no("behind one of its own", x.run(100, 108, 3, 0));
        check.no("the first is not above", x.run(55, 56, 2, 0));
        check.same("nothing changed", as, Check.all(x));
        check.yes("one less fits", x.run(32, 20, 3, 0));
    }

    private static void edgesOfIds() {
        ListWeave x = new ListWeave();
        check.no("run(7, 0, 2, 0)", x.run(7, 0, 2, 0));
        check.no("run(0, 0, 2, 0)", x.run(0, 0, 2, 0));
        check.no("run(-8, 0, 8, 0)", x.run(-8, 0, 8, 0));
        check.no("run(least int, 0, 8, 0)", x.run(Integer.MIN_VALUE, 0, 8, 0));
        check.no("run(greatest int, 0, 8, 0)", x.run(Integer.MAX_VALUE, 0, 8, 0));
        check.no("run(800000, 0, 2, 0)", x.run(800000, 0, 2, 0));
        check.no("run(799952, 0, 8, 0)", x.run(799952, 0, 8, 0));
        check.due("look(0)", 0, () -> x.look(0));
        check.yes("run(799951, 0, 8, 0)", x.run(799951, 0, 8, 0));
        check.yes("run(8, 0, 2, 0)", x.run(8, 0, 2, 0));
        check.due("look(3)", 800007, () -> x.look(3));
    }

    private static void allOrNoneAtTheLimit() {
        ListWeave x = new ListWeave();
        for (int i = 0; i < 63; i++) {
            x.run(8 + 64 * i, 0, 8, 0);
        }
        x.insert(100000, 0, 0, 0);
        check.no("8 where 7 are free", x.run(200000, 0, 8, 0));
        check.due("look(0)", 505, () -> x.look(0));
        check.due("look(3)", 100000, () -> x.look(3));
        check.yes("7 where 7 are free", x.run(200000, 0, 7, 0));
        check.no("2 where none is free", x.run(300000, 0, 2, 0));
        check.due("look(0)", 512, () -> x.look(0));
    }
}
