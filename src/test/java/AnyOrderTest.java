import java.util.ArrayList;
import java.util.Collections;
import java.util.HashSet;
import java.util.List;
import java.util.Random;
import java.util.Set;

/** What is told is a plain function of the set of operations: the order in which they came is not seen. */
public final class AnyOrderTest {
    private static final Check check = new Check();

    /** An operation by insert, set or remove, and what it hangs on. */
    private record Operation(char sort, int id, int on, int kind, int value) {
        boolean doneOn(ListWeave list) {
            return switch (sort) {
                case 'i' -> list.insert(id, on, kind, value);
                case 's' -> list.set(id, on, kind, value);
                default -> list.remove(id, on);
            };
        }
    }

    public static void main(String[] args) {
        for (int seed = 0; seed < 200; seed++) {
            Random random = new Random(seed);
            List<Operation> operations = someOperations(random);
            String first = woven(operations);
            for (int turn = 0; turn < 10; turn++) {
                check.same("seed " + seed + ", turn " + turn, first, woven(anotherOrder(operations, random)));
            }
        }
        check.end();
    }

    private static List<Operation> someOperations(Random random) {
        List<Operation> operations = new ArrayList<>();
        List<Integer> elements = new ArrayList<>();
        Set<Integer> used = new HashSet<>();
        elements.add(0);
        for (int i = 0; i < 50; i++) {
            int on = elements.get(random.nextInt(elements.size()));
            int id = Math.max(8, on + 1) + random.nextInt(60);
            char sort = "iiisr".charAt(random.nextInt(5));
            boolean fits = sort == 'i' ? elements.size() <= 18 : on != 0;
            if (fits && used.add(id)) {
                operations.add(new Operation(sort, id, on, random.nextInt(7), random.nextInt()));
                if (sort == 'i') {
                    elements.add(id);
                }
            }
        }
        return operations;
    }

    /** A shuffled order, in which each still comes behind what it hangs on. */
    private static List<Operation> anotherOrder(List<Operation> operations, Random random) {
        List<Operation> waiting = new ArrayList<>(operations);
        Collections.shuffle(waiting, random);
        List<Operation> order = new ArrayList<>();
        Set<Integer> there = new HashSet<>(Set.of(0));
        while (!waiting.isEmpty()) {
            for (int i = 0; i < waiting.size(); i++) {
                Operation next = waiting.get(i);
                if (there.contains(next.on())) {
                    order.add(waiting.remove(i));
                    there.add(next.id());
                    break;
                }
            }
        }
        return order;
    }

    private static String woven(List<Operation> operations) {
        ListWeave list = new ListWeave();
        for (Operation operation : operations) {
            check.yes(operation.toString(), operation.doneOn(list));
        }
        return Check.all(list);
    }
}
