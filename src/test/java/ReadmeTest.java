import java.io.IOException;
import java.nio.file.Files;
import java.nio.file.Path;
import java.util.List;
import java.util.function.Function;

/** The example in README.md: each of its lines is a call, with the answer that the call gives. */
public final class ReadmeTest {
    private record Call(String text, Function<ListWeave, Object> asked) {
        /** As README.md tells it. */
        String answerOf(ListWeave list) {
            try {
                return String.valueOf(asked.apply(list));
            } catch (RuntimeException thrown) {
                return "throws " + thrown.getClass().getSimpleName();
            }
        }
    }

    private static final List<Call> EXAMPLE = List.of(
        new Call("list.insert(16, 0, 2, 10);", list -> list.insert(16, 0, 2, 10)),
        new Call("list.insert(24, 0, 2, 20);", list -> list.insert(24, 0, 2, 20)),
        new Call("list.run(32, 16, 3, 0x616263);", list -> list.run(32, 16, 3, 0x616263)),
        new Call("list.set(56, 16, 2, 11);", list -> list.set(56, 16, 2, 11)),
        new Call("list.remove(57, 40);", list -> list.remove(57, 40)),
        new Call("list.remove(57, 48);", list -> list.remove(57, 48)),
        new Call("list.size();", list -> list.size()),
        new Call("list.at(1, 0);", list -> list.at(1, 0)),
        new Call("list.at(4, 0);", list -> list.at(4, 0)),
        new Call("list.place(48);", list -> list.place(48)),
        new Call("list.place(40);", list -> list.place(40)),
        new Call("list.ahead(40);", list -> list.ahead(40)),
        new Call("list.before(24, 16);", list -> list.before(24, 16)),
        new Call("list.row(3);", list -> list.row(3)),
        new Call("list.of(16, 4);", list -> list.of(16, 4)),
        new Call("list.sum(0, 4);", list -> list.sum(0, 4)),
        new Call("list.look(4);", list -> list.look(4)));

    public static void main(String[] args) throws IOException {
        Check check = new Check();
        check.sentence("README.md says how to use the class");
        List<String> lines = Files.readAllLines(Path.of("README.md")).stream()
            .filter(line -> line.startsWith("list.")).toList();
        check.due("the lines of the example", EXAMPLE.size(), lines::size);
        ListWeave list = new ListWeave();
        for (int i = 0; i < Math.min(EXAMPLE.size(), lines.size()); i++) {
            Call call = EXAMPLE.get(i);
            check.same("line " + i, call.text() + " " + call.answerOf(list), callAndAnswer(lines.get(i)));
        }
        check.end();
    }

    /** Without the words behind the answer, which say why. */
    private static String callAndAnswer(String line) {
        return line.replaceFirst(" +// ", " ").replaceFirst(": .*", "");
    }
}
