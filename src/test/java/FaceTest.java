import java.lang.reflect.Constructor;
import java.lang.reflect.Field;
import java.lang.reflect.Method;
import java.lang.reflect.Modifier;
import java.util.HashSet;
import java.util.Set;
import java.util.TreeSet;

/** The public face is the document's, and nothing beside it can be seen from outside. */
public final class FaceTest {
    private static final String[] FACE = {
        "public static final int ListWeave.NONE",
        "public ListWeave()",
        "public void ListWeave.clear()",
        "public boolean ListWeave.insert(int,int,int,int)",
        "public boolean ListWeave.run(int,int,int,long)",
        "public boolean ListWeave.set(int,int,int,int)",
        "public boolean ListWeave.remove(int,int)",
        "public int ListWeave.size()",
        "public int ListWeave.at(int,int) throws java.lang.IndexOutOfBoundsException",
        "public int ListWeave.place(int)",
        "public int ListWeave.ahead(int) throws java.lang.IllegalArgumentException",
        "public boolean ListWeave.before(int,int) throws java.lang.IllegalArgumentException",
        "public int ListWeave.row(int) throws java.lang.IndexOutOfBoundsException",
        "public int ListWeave.of(int,int) throws java.lang.IllegalArgumentException",
        "public long ListWeave.sum(int,int)",
        "public int ListWeave.look(int)",
    };

    public static void main(String[] args) {
        Check check = new Check();
        Class<ListWeave> face = ListWeave.class;
        check.due("the class's modifiers", Modifier.PUBLIC | Modifier.FINAL, face::getModifiers);
        check.same("the face", String.join("\n", new TreeSet<>(Set.of(FACE))), String.join("\n", seen(face)));
        check.due("private methods named as public ones", 0, () -> namedAsPublic(face));
        check.end();
    }

    private static TreeSet<String> seen(Class<?> face) {
        TreeSet<String> seen = new TreeSet<>();
        for (Field field : face.getDeclaredFields()) {
            if (!Modifier.isPrivate(field.getModifiers())) {
                seen.add(field.toString());
            }
        }
        for (Constructor<?> constructor : face.getDeclaredConstructors()) {
            if (!Modifier.isPrivate(constructor.getModifiers())) {
                seen.add(constructor.toString());
            }
        }
        for (Method method : face.getDeclaredMethods()) {
            if (!Modifier.isPrivate(method.getModifiers())) {
                seen.add(method.toString());
            }
        }
        return seen;
    }

    private static int namedAsPublic(Class<?> face) {
        Set<String> names = new HashSet<>();
        for (Method method : face.getMethods()) {
            names.add(method.getName());
        }
        int found = 0;
        for (Method method : face.getDeclaredMethods()) {
            if (Modifier.isPrivate(method.getModifiers()) && names.contains(method.getName())) {
                found++;
            }
        }
        return found;
    }
}
