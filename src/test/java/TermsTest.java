import java.util.List;

/** The face and "Terms": each of their sentences that names a boundary, for all the calls that it binds. */
public final class TermsTest {
    private static final Check check = new Check();
    private static final int LEAST = Integer.MIN_VALUE;
    private static final int GREATEST = Integer.MAX_VALUE;

    private interface ById {
        boolean doneOn(ListWeave x, int id);
    }

    /** An operation on a list with the element 8; a run is by its ID and by the one 8 above. */
    private record Operation(String name, ById call) {
        boolean doneOn(ListWeave x, int id) {
            return call.doneOn(x, id);
        }
    }

    private static final Operation INSERT = new Operation("insert behind 8", (x, id) -> x.insert(id, 8, 0, 0));
    private static final Operation RUN = new Operation("run behind 8", (x, id) -> x.run(id, 8, 2, 0));
    private static final Operation SET = new Operation("set of 8", (x, id) -> x.set(id, 8, 0, 0));
    private static final Operation REMOVE = new Operation("remove of 8", (x, id) -> x.remove(id, 8));
    private static final List<Operation> OPERATIONS = List.of(
        new Operation("insert behind 0", (x, id) -> x.insert(id, 0, 0, 0)), INSERT,
        new Operation("run behind 0", (x, id) -> x.run(id, 0, 2, 0)), RUN, SET, REMOVE);

    public static void main(String[] args) {
        goodFor512Calls();
        noneIsMinusOne();
        idsFrom8();
        idsTo800007();
        kindsFrom0To6();
        anyInt();
        behindALesserId();
        byFallingIds();
        followedAtOnceByItsOwn();
        theGreatestIdStands();
        hiddenForGood();
        staysInItsPlace();
        atMost512Elements();
        removedOnesCountAmong512();
        everyIdIsThereOnce();
        noIdOfARunTwice();
        placesFrom0();
        falseChangesNothing();
        whatWasRefusedCanBeDoneLater();
        throwingChangesNothing();
        oneExceptionForSeveralReasons();
        check.end();
    }

    private static void goodFor512Calls() {
        check.sentence("An object is used for at most 512 calls after it has been made");
        ListWeave x = new ListWeave();
        for (int call = 1; call <= 512; call++) {
            check.yes("insert as call " + call, x.insert(8 + call, 0, 0, 0));
        }
        ListWeave y = new ListWeave();
        for (int call = 1; call <= 511; call++) {
            y.insert(8 + call, 0, 0, 0);
        }
        check.due("look(0) as call 512", 511, () -> y.look(0));
    }

    private static void noneIsMinusOne() {
        check.sentence("NONE = -1: There is none.");
        check.due("NONE", -1, () -> ListWeave.NONE);
        check.due("place of none", ListWeave.NONE, () -> new ListWeave().place(8));
        check.due("look(3) without any", ListWeave.NONE, () -> new ListWeave().look(3));
        check.due("look(5)", ListWeave.NONE, () -> new ListWeave().look(5));
    }

    private static void idsFrom8() {
        check.sentence("An ID is 8 ..");
        int[] tooSmall = {7, 1, 0, -1, -8, LEAST};
        for (Operation operation : OPERATIONS) {
            for (int id : tooSmall) {
                check.refused(operation.name() + " by " + id, Lists::one, x -> operation.doneOn(x, id));
            }
        }
        check.yes("insert(8, 0, 0, 0)", new ListWeave().insert(8, 0, 0, 0));
        check.yes("run(8, 0, 2, 0)", new ListWeave().run(8, 0, 2, 0));
        check.yes("insert by 9", INSERT.doneOn(Lists.one(), 9));
        check.yes("run by 9", RUN.doneOn(Lists.one(), 9));
        check.yes("set by 9", SET.doneOn(Lists.one(), 9));
        check.yes("remove by 9", REMOVE.doneOn(Lists.one(), 9));
    }

    private static void idsTo800007() {
        check.sentence("An ID is .. 800007.");
        int[] tooLarge = {800008, 800009, 1000000, GREATEST - 8, GREATEST};
        for (Operation operation : OPERATIONS) {
            for (int id : tooLarge) {
                check.refused(operation.name() + " by " + id, Lists::one, x -> operation.doneOn(x, id));
            }
            boolean isRun = operation.name().startsWith("run");
            int last = isRun ? 799999 : 800007;
            ListWeave x = Lists.one();
            check.yes(operation.name() + " by " + last, operation.doneOn(x, last));
            check.due("the greatest ID", 800007, () -> x.look(3));
        }
        check.refused("run by 800000 and 800008", Lists::one, x -> RUN.doneOn(x, 800000));
    }

    private static void kindsFrom0To6() {
        check.sentence("A VALUE is a kind 0 .. 6");
        int[] none = {-1, 7, 8, LEAST, GREATEST};
        for (int kind : none) {
            check.refused("insert of kind " + kind, Lists::one, x -> x.insert(16, 0, kind, 1));
            check.refused("set of kind " + kind, Lists::one, x -> x.set(16, 8, kind, 1));
        }
        for (int i = 0; i <= 6; i++) {
            int kind = i;
            ListWeave x = Lists.one();
            check.yes("insert of kind " + kind, x.insert(16, 0, kind, 1));
            check.due("its kind", kind, () -> x.of(16, 5));
            check.yes("set of kind " + kind, x.set(24, 8, kind, 1));
            check.due("its kind", kind, () -> x.of(8, 5));
        }
    }

    private static void anyInt() {
        check.sentence("and an int (any).");
        int[] ints = {LEAST, LEAST + 1, -1, 0, 1, GREATEST - 1, GREATEST};
        for (int value : ints) {
            ListWeave x = new ListWeave();
            check.yes("insert of the int " + value, x.insert(8, 0, 2, value));
            check.due("at(0, 2)", value, () -> x.at(0, 2));
            check.due("of(8, 6)", value, () -> x.of(8, 6));
            check.due("sum(0, 1)", value, () -> x.sum(0, 1));
            x.insert(9, 0, 0, 5);
            check.yes("set to the int " + value, x.set(10, 9, 3, value));
            check.due("at(0, 2)", value, () -> x.at(0, 2));
            check.due("of(9, 6)", value, () -> x.of(9, 6));
        }
    }

    private static void behindALesserId() {
        check.sentence("behind another one (or 0, the BEGINNING), whose ID is less");
        check.yes("one above", Lists.five().insert(32, 31, 0, 0));
        check.refused("one below", Lists::five, x -> x.insert(29, 30, 0, 0));
        check.refused("the same", Lists::five, x -> x.insert(30, 30, 0, 0));
        check.yes("any ID is above the beginning", Lists.five().insert(8, 0, 0, 0));
    }

    private static void byFallingIds() {
        check.sentence("those that were inserted there, by falling IDs");
        ListWeave x = new ListWeave();
        x.insert(20, 0, 0, 0);
        x.insert(21, 0, 0, 0);
        x.insert(19, 0, 0, 0);
        x.insert(800007, 0, 0, 0);
        x.insert(8, 0, 0, 0);
        check.same("behind the beginning", "800007 21 20 19 8", Check.rows(x));
        x.insert(30, 8, 0, 0);
        x.insert(31, 8, 0, 0);
        x.insert(9, 8, 0, 0);
        check.same("behind the last element", "800007 21 20 19 8 31 30 9", Check.rows(x));
    }

    private static void followedAtOnceByItsOwn() {
        check.sentence("each followed at once by all that were inserted behind it, and behind those, likewise");
        ListWeave x = new ListWeave();
        x.insert(10, 0, 0, 0);
        x.insert(20, 10, 0, 0);
        x.insert(40, 20, 0, 0);
        x.insert(30, 10, 0, 0);
        check.same("between 20 and what hangs on it by its ID", "10 30 20 40", Check.rows(x));
        x.insert(15, 10, 0, 0);
        x.insert(50, 40, 0, 0);
        x.insert(45, 40, 0, 0);
        x.insert(41, 20, 0, 0);
        check.same("what hangs on 40 stays with it", "10 30 20 41 40 50 45 15", Check.rows(x));
        x.insert(9, 0, 0, 0);
        x.insert(11, 0, 0, 0);
        check.same("ahead of all of 10, and behind", "11 10 30 20 41 40 50 45 15 9", Check.rows(x));
    }

    private static void theGreatestIdStands() {
        check.sentence("of its INSERT and SETs the one with the greatest ID STANDS");
        ListWeave x = Lists.one();
        check.due("the INSERT alone", 8, () -> x.of(8, 4));
        x.set(30, 8, 3, 300);
        check.due("a SET above it", 30, () -> x.of(8, 4));
        x.set(29, 8, 4, 290);
        check.due("a SET one below that", 30, () -> x.of(8, 4));
        check.due("its int", 300, () -> x.of(8, 6));
        x.set(31, 8, 5, 310);
        check.due("a SET one above that", 31, () -> x.of(8, 4));
        check.due("its int", 310, () -> x.of(8, 6));
        x.remove(800007, 8);
        check.due("a REMOVE never stands", 31, () -> x.of(8, 4));
    }

    private static void hiddenForGood() {
        check.sentence("A REMOVE hides an element for good");
        ListWeave x = Lists.one();
        x.remove(100, 8);
        x.set(50, 8, 2, 1);
        check.due("size() after a SET below the REMOVE", 0, x::size);
        x.set(200, 8, 2, 1);
        check.due("size() after a SET above the REMOVE", 0, x::size);
        x.remove(300, 8);
        check.due("size() after a second REMOVE", 0, x::size);
        x.remove(9, 8);
        check.due("size() after a third REMOVE", 0, x::size);
        check.due("row(0)", -8, () -> x.row(0));
    }

    private static void staysInItsPlace() {
        check.sentence("(it stays in its place; what stands behind it stays)");
        ListWeave x = Lists.filled(8);
        x.insert(9, 8, 2, 1);
        x.remove(100, 8);
        x.remove(101, 16);
        check.same("the first ones removed", "-8 -16 24 32 40 48 56 64 9", Check.rows(x));
        check.yes("insert behind a removed one", x.insert(102, 16, 2, 1));
        check.yes("run behind a removed one", x.run(103, 8, 2, 0));
        check.same("and others behind them", "-8 103 111 -16 102 24 32 40 48 56 64 9", Check.rows(x));
    }

    private static void atMost512Elements() {
        check.sentence("At most 512 elements");
        ListWeave x = Lists.filled(511);
        check.yes("insert number 512", x.insert(10000, 0, 0, 0));
        check.due("look(0)", 512, () -> x.look(0));
        check.refused("insert number 513", Lists::full, full -> full.insert(10000, 0, 0, 0));
        check.refused("run at 512", Lists::full, full -> full.run(10000, 0, 2, 0));
        ListWeave full = Lists.full();
        check.yes("set at 512", full.set(10000, 8, 0, 0));
        check.yes("remove at 512", full.remove(10001, 8));
    }

    private static void removedOnesCountAmong512() {
        check.sentence("At most 512 elements (a removed one stays in its place)");
        ListWeave x = Lists.full();
        x.remove(10000, 4096);
        x.remove(10001, 8);
        check.no("insert when two of 512 are removed", x.insert(10002, 0, 0, 0));
        check.no("run when two of 512 are removed", x.run(10002, 0, 2, 0));
        check.due("look(0)", 512, () -> x.look(0));
        check.due("look(1)", 510, () -> x.look(1));
    }

    private static void everyIdIsThereOnce() {
        check.sentence("every operation's ID is there once");
        for (Operation first : OPERATIONS) {
            for (Operation second : OPERATIONS) {
                String call = second.name() + " by the ID of a " + first.name();
                check.refused(call, () -> oneAnd(first, 100), x -> second.doneOn(x, 100));
            }
            check.yes(first.name() + " by one above", first.doneOn(oneAnd(first, 100), 101));
            check.yes(first.name() + " by one below", first.doneOn(oneAnd(first, 100), 99));
        }
        for (Operation operation : OPERATIONS) {
            check.refused(operation.name() + " by 8", Lists::one, x -> operation.doneOn(x, 8));
        }
    }

    private static ListWeave oneAnd(Operation operation, int id) {
        ListWeave x = Lists.one();
        check.yes(operation.name() + " by " + id, operation.doneOn(x, id));
        return x;
    }

    private static void noIdOfARunTwice() {
        check.sentence("every operation's ID is there once (each of a run)");
        for (Operation operation : OPERATIONS) {
            String name = operation.name();
            check.refused(name + " by a run's last ID", () -> oneAnd(RUN, 100), x -> operation.doneOn(x, 108));
            check.yes(name + " by an ID within a run", operation.doneOn(oneAnd(RUN, 100), 104));
            check.refused("a run's last by that of a " + name, () -> oneAnd(operation, 100), x -> RUN.doneOn(x, 92));
        }
    }

    private static void placesFrom0() {
        check.sentence("PLACES are counted among these, from 0 on");
        ListWeave x = Lists.five();
        x.remove(60, 40);
        check.due("place of the first visible one", 0, () -> x.place(31));
        check.due("place of the last visible one", 1, () -> x.place(10));
        check.due("at(0, 0)", 31, () -> x.at(0, 0));
        check.due("at(1, 0)", 10, () -> x.at(1, 0));
    }

    private static void falseChangesNothing() {
        check.sentence("What answers false .. changes nothing.");
        check.refused("insert", Lists::five, x -> x.insert(53, 0, 2, 9));
        check.refused("insert below all others", Lists::five, x -> x.insert(8, 0, 7, 9));
        check.refused("run, its last ID being there", Lists::five, x -> x.run(45, 10, 2, 9));
        check.refused("set", Lists::five, x -> x.set(100, 10, 7, 9));
        check.refused("set of a removed one", Lists::five, x -> x.set(53, 30, 2, 9));
        check.refused("remove", Lists::five, x -> x.remove(53, 10));
        check.refused("remove of a removed one", Lists::five, x -> x.remove(53, 30));
        check.refused("insert into an empty list", ListWeave::new, x -> x.insert(8, 0, 7, 9));
    }

    private static void whatWasRefusedCanBeDoneLater() {
        check.sentence("What answers false .. changes nothing (an ID stays free).");
        ListWeave x = Lists.five();
        check.no("insert behind none", x.insert(60, 59, 0, 0));
        check.no("set of none", x.set(61, 59, 0, 0));
        check.no("remove of none", x.remove(62, 59));
        check.no("run whose third ID is there", x.run(37, 31, 3, 0));
        check.yes("insert by 59", x.insert(59, 0, 0, 0));
        check.yes("insert by 60", x.insert(60, 59, 0, 0));
        check.yes("set by 61", x.set(61, 59, 0, 0));
        check.yes("remove by 62", x.remove(62, 59));
        check.yes("run by the first two IDs", x.run(37, 31, 2, 0));
    }

    private static void throwingChangesNothing() {
        check.sentence("What .. throws, changes nothing.");
        check.thrown("at(3, 0)", Check.THROWS_INDEX, Lists::five, x -> x.at(3, 0));
        check.thrown("at(0, 4)", Check.THROWS_INDEX, Lists::five, x -> x.at(0, 4));
        check.thrown("row(5)", Check.THROWS_INDEX, Lists::five, x -> x.row(5));
        check.thrown("ahead(11)", Check.THROWS_ARGUMENT, Lists::five, x -> x.ahead(11));
        check.thrown("before(10, 11)", Check.THROWS_ARGUMENT, Lists::five, x -> x.before(10, 11) ? 1 : 0);
        check.thrown("of(11, 0)", Check.THROWS_ARGUMENT, Lists::five, x -> x.of(11, 0));
        check.thrown("of(10, 7)", Check.THROWS_ARGUMENT, Lists::five, x -> x.of(10, 7));
        check.thrown("of(0, 2)", Check.THROWS_ARGUMENT, Lists::five, x -> x.of(0, 2));
    }

    private static void oneExceptionForSeveralReasons() {
        check.sentence("Of several exceptions that hold the first one listed is thrown.");
        ListWeave x = Lists.five();
        check.due("at(3, 4)", Check.THROWS_INDEX, () -> x.at(3, 4));
        check.due("at(-1, -1)", Check.THROWS_INDEX, () -> x.at(-1, -1));
        check.due("before(11, 12)", Check.THROWS_ARGUMENT, () -> x.before(11, 12) ? 1 : 0);
        check.due("of(11, 7)", Check.THROWS_ARGUMENT, () -> x.of(11, 7));
        check.due("of(-1, -1)", Check.THROWS_ARGUMENT, () -> x.of(-1, -1));
    }
}
