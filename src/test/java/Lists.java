/** Lists that several tests begin with. */
final class Lists {
    private Lists() {
    }

    /** One element: 8, of kind 2 with the int 1. */
    static ListWeave one() {
        ListWeave x = new ListWeave();
        x.insert(8, 0, 2, 1);
        return x;
    }

    /** Lies as 40 -30 31 -20 10: SETs 50 of 31 and 51 of 30, REMOVES 52 of 30 and 53 of 20. */
    static ListWeave five() {
        ListWeave x = new ListWeave();
        x.insert(10, 0, 1, 100);
        x.insert(20, 0, 2, 200);
        x.insert(30, 0, 3, 300);
        x.insert(31, 30, 4, 310);
        x.insert(40, 0, 5, 400);
        x.set(50, 31, 6, -310);
        x.set(51, 30, 0, -300);
        x.remove(52, 30);
        x.remove(53, 20);
        return x;
    }

    /** As five(), but no element is visible. */
    static ListWeave allRemoved() {
        ListWeave x = five();
        x.remove(54, 10);
        x.remove(55, 31);
        x.remove(56, 40);
        return x;
    }

    /** Elements 8, 16, 24, .. with the int 1 of kind 2, by as few calls as can be; each eight hang on one another. */
    static ListWeave filled(int elements) {
        ListWeave x = new ListWeave();
        for (int i = 0; i < elements / 8; i++) {
            x.run(8 + 64 * i, 0, 8, 0x0101010101010101L);
        }
        for (int i = elements / 8 * 8; i < elements; i++) {
            x.insert(8 + 8 * i, 0, 2, 1);
        }
        return x;
    }

    /** One element: 64, the last of the eight IDs of a run by 8. */
    static ListWeave only64() {
        ListWeave x = new ListWeave();
        x.insert(64, 0, 2, 1);
        return x;
    }

    static ListWeave full() {
        return filled(512);
    }
}
