import java.util.ArrayList;
import java.util.List;
import java.util.Random;

/** Runs of 512 calls with right and wrong arguments, whose every answer is held against the plain model's. */
public final class ModelTest {
    private static final int[] ODD = {
        0, 7, 8, 9, -1, -8, 800007, 800008, 800000, Integer.MIN_VALUE, Integer.MAX_VALUE, 512, 511
    };
    private static final Check check = new Check();

    private final Random random;
    private final int spread;
    private final ListWeave list = new ListWeave();
    private final Model model = new Model();
    private final List<Integer> ids = new ArrayList<>();
    private int greatest = 8;

    private ModelTest(int seed) {
        random = new Random(seed);
        // Narrow runs meet used IDs often, wide ones seldom.
        spread = new int[] {20, 200, 5000, 700000}[seed % 4];
    }

    public static void main(String[] args) {
        for (int seed = 0; seed < 300; seed++) {
            ModelTest test = new ModelTest(seed);
            for (int call = 0; call < 512; call++) {
                test.callOnce(seed, call < 100 || seed % 3 == 0);
            }
        }
        check.end();
    }

    private void callOnce(int seed, boolean weaving) {
        String run = "seed " + seed + ": ";
        if (random.nextInt(100) < (weaving ? 70 : 25)) {
            operate(run);
        } else {
            tell(run);
        }
    }

    private int newId(int above) {
        if (random.nextInt(12) == 0) {
            return odd();
        }
        if (random.nextInt(3) == 0) {
            return greatest + 1 + random.nextInt(9);
        }
        return Math.max(8, above + 1) + random.nextInt(spread);
    }

    private int odd() {
        return ODD[random.nextInt(ODD.length)];
    }

    private int oneOf() {
        if (ids.isEmpty() || random.nextInt(15) == 0) {
            return odd();
        }
        return random.nextInt(6) == 0 ? 0 : ids.get(random.nextInt(ids.size()));
    }

    private int small(int below) {
        return random.nextInt(15) == 0 ? odd() : random.nextInt(below + 2) - 1;
    }

    private void operate(String run) {
        int on = oneOf();
        int id = newId(on);
        int kind = random.nextInt(3) == 0 ? small(8) : 2;
        int value = random.nextBoolean() ? random.nextInt() : random.nextInt(100);
        int n = random.nextInt(8) == 0 ? small(10) : 2 + random.nextInt(7);
        long part = random.nextLong();
        switch (random.nextInt(500) == 0 ? 9 : random.nextInt(9)) {
            case 0, 1 -> made(run + "set", id, model.set(id, on, kind, value), list.set(id, on, kind, value));
            case 2, 3 -> made(run + "remove", id, model.remove(id, on), list.remove(id, on));
            case 4, 5 -> made(run + "run", id, model.run(id, on, n, part), list.run(id, on, n, part));
            case 9 -> {
                list.clear();
                model.clear();
            }
            default -> made(run + "insert", id, model.insert(id, on, kind, value), list.insert(id, on, kind, value));
        }
    }

    private void made(String call, int id, boolean want, boolean got) {
        check.due(call + " by " + id, want ? 1 : 0, () -> got ? 1 : 0);
        if (want) {
            ids.add(id);
            greatest = Math.max(greatest, id);
        }
    }

    private void tell(String run) {
        int one = oneOf();
        int other = oneOf();
        int what = small(8);
        int i = small(Math.max(1, (int) model.look(0)));
        int j = small(Math.max(1, (int) model.look(0)));
        switch (random.nextInt(9)) {
            case 0 -> check.due(run + "size()", model.size(), list::size);
            case 1 -> check.due(run + "at(" + i + ", " + what + ")", model.at(i, what), () -> list.at(i, what));
            case 2 -> check.due(run + "place(" + one + ")", model.place(one), () -> list.place(one));
            case 3 -> check.due(run + "ahead(" + one + ")", model.ahead(one), () -> list.ahead(one));
            case 4 -> check.due(run + "before(" + one + ", " + other + ")", model.before(one, other),
                () -> list.before(one, other) ? 1 : 0);
            case 5 -> check.due(run + "row(" + i + ")", model.row(i), () -> list.row(i));
            case 6 -> check.due(run + "of(" + one + ", " + what + ")", model.of(one, what), () -> list.of(one, what));
            case 7 -> check.due(run + "sum(" + i + ", " + j + ")", model.sum(i, j), () -> list.sum(i, j));
            default -> check.due(run + "look(" + what + ")", model.look(what), () -> list.look(what));
        }
    }
}
