import java.util.function.LongSupplier;
import java.util.function.Predicate;
import java.util.function.Supplier;
import java.util.function.ToLongFunction;

/** Counts and prints every answer that is not the one that is due. */
final class Check {
    /** What stands for an answer where a call throws: no int, and no sum, is as far down as these. */
    static final long THROWS_INDEX = Long.MIN_VALUE + 1;
    static final long THROWS_ARGUMENT = Long.MIN_VALUE + 2;
    static final long THROWS_OTHER = Long.MIN_VALUE + 3;

    /** An object is good for 512 calls only, so of a long list at most so many rows and places are asked for. */
    private static final int MOST_TOLD = 20;

    private String sentence = "";
    private int wrong = 0;

    /** The words of the document that the answers from here on are due by; they are printed with a wrong one. */
    void sentence(String words) {
        sentence = words;
    }

    void due(String call, long want, LongSupplier got) {
        long answer = answerOf(got);
        if (answer != want) {
            wrong(call + " answered " + told(answer) + ", due is " + told(want));
        }
    }

    void yes(String call, boolean got) {
        due(call, 1, () -> got ? 1 : 0);
    }

    void no(String call, boolean got) {
        due(call, 0, () -> got ? 1 : 0);
    }

    void same(String what, String want, String got) {
        if (!want.equals(got)) {
            wrong(what + ":\n  told " + got + "\n  due  " + want);
        }
    }

    /** The operation answers false, and the list tells what one tells on which it was not tried. */
    void refused(String call, Supplier<ListWeave> made, Predicate<ListWeave> operation) {
        ListWeave list = made.get();
        no(call, operation.test(list));
        same("after the refused " + call, all(made.get()), all(list));
    }

    /** The call throws, and the list tells what one tells on which it was not tried. */
    void thrown(String call, long want, Supplier<ListWeave> made, ToLongFunction<ListWeave> asked) {
        ListWeave list = made.get();
        due(call, want, () -> asked.applyAsLong(list));
        same("after the thrown " + call, all(made.get()), all(list));
    }

    void end() {
        System.out.println(wrong == 0 ? "all answers are as due" : wrong + " answers are not as due");
        if (wrong != 0) {
            System.exit(1);
        }
    }

    private void wrong(String text) {
        wrong++;
        System.out.println((sentence.isEmpty() ? "" : "[" + sentence + "] ") + text);
    }

    static long answerOf(LongSupplier call) {
        try {
            return call.getAsLong();
        } catch (RuntimeException thrown) {
            // The exact class, since what the machine throws for an array's index is a kind of the first one.
            if (thrown.getClass() == IndexOutOfBoundsException.class) {
                return THROWS_INDEX;
            }
            return thrown.getClass() == IllegalArgumentException.class ? THROWS_ARGUMENT : THROWS_OTHER;
        }
    }

    static String told(long answer) {
        if (answer == THROWS_INDEX) {
            return "throws.IndexOutOfBoundsException";
        }
        if (answer == THROWS_ARGUMENT) {
            return "throws.IllegalArgumentException";
        }
        return answer == THROWS_OTHER ? "throws another exception" : Long.toString(answer);
    }

    /** All that a list tells; of a long one, evenly spread parts. */
    static String all(ListWeave list) {
        StringBuilder text = new StringBuilder();
        int rows = list.look(0);
        int size = list.size();
        for (int which = 0; which < 5; which++) {
            text.append(list.look(which)).append(' ');
        }
        text.append("size ").append(size).append(" begins ").append(list.of(0, 1));
        text.append(" sums ").append(list.sum(0, size)).append(' ').append(list.sum(1, size / 2 + 1));
        for (int i = 0; i < rows; i += stepOver(rows)) {
            int row = list.row(i);
            int id = Math.abs(row);
            text.append(" | ").append(row).append(' ').append(list.place(id)).append(' ').append(list.ahead(id));
            for (int what = 0; what < 7; what++) {
                text.append(' ').append(list.of(id, what));
            }
        }
        for (int place = 0; place < size; place += stepOver(size)) {
            text.append(" @");
            for (int what = 0; what < 4; what++) {
                text.append(' ').append(list.at(place, what));
            }
        }
        return text.toString();
    }

    private static int stepOver(int count) {
        return Math.max(1, (count + MOST_TOLD - 1) / MOST_TOLD);
    }

    /** The IDs of all elements as they lie, below 0 if removed. */
    static String rows(ListWeave list) {
        StringBuilder text = new StringBuilder();
        int rows = list.look(0);
        for (int i = 0; i < rows; i++) {
            text.append(i == 0 ? "" : " ").append(list.row(i));
        }
        return text.toString();
    }
}
