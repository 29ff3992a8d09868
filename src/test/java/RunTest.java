/** Promise 4: run. */
public final class RunTest {
    private static final Check check = new Check();
    private static final int LEAST = Integer.MIN_VALUE;
    private static final int GREATEST = Integer.MAX_VALUE;

    public static void main(String[] args) {
        bytesFromTheHighestOn();
        lowestBytesOnly();
        bytesFrom0To255();
        from2To8();
        behindAnElementOr0();
        eachBehindTheOneBefore();
        idsGrowBy8();
        noneIfAnIdWasThere();
        noneIfAnIdIsNone();
        noneIfItWouldBeMoreThan512();
        noneIfNotAbove();
        check.end();
    }

    private static void bytesFromTheHighestOn() {
        check.sentence("values of kind 2, byte by byte of part from the highest of its n lowest bytes on");
        ListWeave x = new ListWeave();
        check.yes("run(8, 0, 8, 0xff01807f00fe0203)", x.run(8, 0, 8, 0xff01807f00fe0203L));
        int[] bytes = {0xff, 0x01, 0x80, 0x7f, 0x00, 0xfe, 0x02, 0x03};
        for (int i = 0; i < 8; i++) {
            int place = i;
            check.due("at(" + i + ", 0)", 8 + 8 * i, () -> x.at(place, 0));
            check.due("at(" + i + ", 1)", 2, () -> x.at(place, 1));
            check.due("at(" + i + ", 2)", bytes[i], () -> x.at(place, 2));
            check.due("at(" + i + ", 3)", 8 + 8 * i, () -> x.at(place, 3));
        }
    }

    private static void lowestBytesOnly() {
        check.sentence("its n lowest bytes");
        long part = 0x1122334455667788L;
        for (int i = 2; i <= 8; i++) {
            int n = i;
            ListWeave x = new ListWeave();
            check.yes("run of " + n, x.run(9, 0, n, part));
            for (int j = 0; j < n; j++) {
                int place = j;
                int due = 0x11 * (8 - (n - 1 - j));
                check.due("at(" + j + ", 2) of " + n, due, () -> x.at(place, 2));
            }
        }
    }

    private static void bytesFrom0To255() {
        check.sentence("0 .. 255");
        long[] parts = {0, -1, Long.MIN_VALUE, Long.MAX_VALUE};
        int[] firsts = {0, 255, 128, 127};
        int[] lasts = {0, 255, 0, 255};
        for (int i = 0; i < parts.length; i++) {
            ListWeave x = new ListWeave();
            int first = firsts[i];
            int last = lasts[i];
            check.yes("run(8, 0, 8, " + parts[i] + ")", x.run(8, 0, 8, parts[i]));
            check.due("the first byte of " + parts[i], first, () -> x.at(0, 2));
            check.due("the last byte of " + parts[i], last, () -> x.at(7, 2));
        }
        ListWeave y = new ListWeave();
        y.run(8, 0, 2, -1);
        check.due("both bytes of -1", 2 * 255, () -> y.sum(0, 2));
    }

    private static void from2To8() {
        check.sentence("INSERTS n times, n 2 .. 8");
        int[] none = {1, 0, -1, -2, 9, 10, LEAST, GREATEST};
        for (int n : none) {
            check.refused("n " + n, Lists::five, x -> x.run(100, 0, n, 0));
        }
        for (int i = 2; i <= 8; i++) {
            int n = i;
            ListWeave x = new ListWeave();
            check.yes("n " + n, x.run(100, 0, n, 0));
            check.due("look(0)", n, () -> x.look(0));
            check.due("look(4)", n, () -> x.look(4));
            check.due("look(3)", 100 + 8 * (n - 1), () -> x.look(3));
        }
    }

    private static void behindAnElementOr0() {
        check.sentence("the first behind an element (or 0)");
        int[] none = {1, 7, 8, 11, 50, 52, 99, 100, 108, -1, -10, LEAST, GREATEST};
        for (int behind : none) {
            check.refused("behind " + behind, Lists::five, x -> x.run(100, behind, 3, 0));
        }
        ListWeave x = Lists.five();
        check.yes("behind 0", x.run(100, 0, 2, 0));
        check.yes("behind the last one", x.run(200, 10, 2, 0));
        check.yes("behind a removed one", x.run(300, 30, 2, 0));
        check.same("all of them", "100 108 40 -30 300 308 31 -20 10 200 208", Check.rows(x));
    }

    private static void eachBehindTheOneBefore() {
        check.sentence("each further one behind the one before");
        ListWeave x = new ListWeave();
        x.insert(20, 0, 0, 0);
        x.insert(50, 20, 0, 0);
        x.insert(30, 20, 0, 0);
        check.yes("run(33, 20, 3, 0)", x.run(33, 20, 3, 0));
        check.same("between siblings", "20 50 33 41 49 30", Check.rows(x));
        check.due("of(33, 0)", 20, () -> x.of(33, 0));
        check.due("of(41, 0)", 33, () -> x.of(41, 0));
        check.due("of(49, 0)", 41, () -> x.of(49, 0));
        check.due("of(20, 1)", 3, () -> x.of(20, 1));
        check.due("of(33, 1)", 1, () -> x.of(33, 1));
        check.due("of(49, 1)", 0, () -> x.of(49, 1));
        check.yes("run(44, 33, 2, 0)", x.run(44, 33, 2, 0));
        check.same("within a run", "20 50 33 44 52 41 49 30", Check.rows(x));
    }

    private static void idsGrowBy8() {
        check.sentence("with IDs that grow by 8");
        ListWeave x = new ListWeave();
        for (int first = 8; first < 16; first++) {
            check.yes("run of 8 by " + first, x.run(first, 0, 8, 0));
        }
        check.due("look(0)", 64, () -> x.look(0));
        check.due("look(3)", 71, () -> x.look(3));
        check.yes("right behind the last ID", x.run(72, 0, 8, 0));
        check.no("by the last ID", x.run(71, 0, 2, 0));
    }

    private static void noneIfAnIdWasThere() {
        check.sentence("False, and none, if one of these could not be done. (an ID was there)");
        check.refused("the first is an element's", Lists::five, x -> x.run(31, 0, 2, 0));
        check.refused("the first is a REMOVE's", Lists::five, x -> x.run(53, 0, 2, 0));
        check.refused("the second is an element's", Lists::five, x -> x.run(32, 31, 2, 0));
        check.refused("the fourth of eight is a SET's", Lists::five, x -> x.run(26, 20, 8, 0));
        check.refused("the last is a SET's", Lists::five, x -> x.run(27, 20, 4, 0));
        check.refused("the last of eight is an element's", Lists::only64, x -> x.run(8, 0, 8, 0));
        check.yes("one less fits", Lists.only64().run(8, 0, 7, 0));
    }

    private static void noneIfAnIdIsNone() {
        check.sentence("False, and none, if one of these could not be done. (an ID is none)");
        int[] none = {7, 0, -1, -8, -48, LEAST, LEAST + 8, 799952, 800000, 800007, 800008, GREATEST - 56, GREATEST};
        for (int first : none) {
            check.refused("by " + first, Lists::five, x -> x.run(first, 0, 8, 0));
        }
        check.refused("the second beyond", Lists::five, x -> x.run(800000, 0, 2, 0));
        ListWeave x = Lists.five();
        check.yes("the last of eight is 800007", x.run(799951, 0, 8, 0));
        check.yes("the last of two is 800006", x.run(799998, 0, 2, 0));
        check.yes("the first is 8", x.run(8, 0, 2, 0));
        check.due("look(3)", 800007, () -> x.look(3));
    }

    private static void noneIfItWouldBeMoreThan512() {
        check.sentence("False, and none, if one of these could not be done. (512 elements)");
        for (int i = 2; i <= 8; i++) {
            int n = i;
            check.refused(n + " into " + (513 - n), () -> Lists.filled(513 - n), x -> x.run(10000, 8, n, 0));
            ListWeave x = Lists.filled(512 - n);
            check.yes(n + " into " + (512 - n), x.run(10000, 8, n, 0));
            check.due("look(0)", 512, () -> x.look(0));
        }
        check.refused("2 into 512", Lists::full, x -> x.run(10000, 0, 2, 0));
        check.refused("8 into 512", Lists::full, x -> x.run(10000, 0, 8, 0));
    }

    private static void noneIfNotAbove() {
        check.sentence("False, and none, if one of these could not be done. (the first is not above)");
        check.refused("one below", Lists::five, x -> x.run(39, 40, 2, 0));
        check.refused("the same", Lists::five, x -> x.run(40, 40, 2, 0));
        check.refused("only the second above", Lists::five, x -> x.run(33, 40, 2, 0));
        check.yes("one above", Lists.five().run(41, 40, 2, 0));
    }
}
