import java.io.IOException;
import java.lang.reflect.Method;
import java.lang.reflect.Modifier;
import java.util.Arrays;
import java.util.List;
import java.util.Set;
import java.util.TreeSet;

/** The public face: the class's constructor, constant and methods, and no more. */
final class FaceTest {
    private FaceTest() { }

    public static void main(String[] args) throws IOException {
        methodsOfTheFace();
        noneIsMinus1();
        Check.end();
    }

    private static String told(Method method) {
        return told(method.getReturnType().getSimpleName(), method.getName(),
                names(method.getParameterTypes()), names(method.getExceptionTypes()));
    }

    private static String told(String answers, String name, List<String> types,
            List<String> thrown) {
        return answers + " " + name + types + " throws " + thrown;
    }

    private static List<String> names(Class<?>[] types) {
        return Arrays.stream(types).map(Class::getSimpleName).toList();
    }

    /** Doc, Exceptions: Ahead of the calls `rate`, `start`, `stop`, `lose` the interface says:
     * ---- sets. | Doc, Exceptions: Ahead of the calls `shed`, `forecast`, `pass`, `set` the
     * interface says: ---- loads, hours. | Doc, Exceptions: Ahead of the calls `append`,
     * `clearBuffer`, `firstError`, `run`, `undo` the interface says: ---- the buffer. */
    private static void methodsOfTheFace() throws IOException {
        Set<String> due = new TreeSet<>();
        for (Face method : Face.ofDocument()) {
            due.add(told(method.answers(), method.name(), method.types(), method.thrown()));
        }
        Check.due("methods in the document", due.size(), 24);
        Set<String> got = new TreeSet<>();
        for (Method method : IslandReserve.class.getDeclaredMethods()) {
            if (!Modifier.isPrivate(method.getModifiers()) && !method.isSynthetic()) {
                isSo("public: " + method, Modifier.isPublic(method.getModifiers()));
                got.add(told(method));
            }
        }
        Check.dueText("the face", String.join("\n", got), String.join("\n", due));
        isSo("one constructor", IslandReserve.class.getDeclaredConstructors().length == 1);
        isSo("a public one", IslandReserve.class.getConstructors().length == 1);
        isSo("a final class", Modifier.isFinal(IslandReserve.class.getModifiers()));
    }

    /** Doc, Exceptions: The constants: `NONE = -1`: There is nothing to return. */
    private static void noneIsMinus1() {
        Check.due("NONE", IslandReserve.NONE, -1);
        IslandReserve x = new IslandReserve();
        x.lose(0);
        x.lose(1);
        x.lose(2);
        x.lose(3);
        Check.due("no best start", x.bestStart(), IslandReserve.NONE);
        Check.due("no cheapest sets", x.cheapest(0, 0), IslandReserve.NONE);
        Check.due("no fuel of them", x.cheapest(0, 1), IslandReserve.NONE);
        Check.due("no hour yet", x.hour(0, 1), IslandReserve.NONE);
        x.pass(48);
        Check.due("no dark hour any more", x.firstDark(), IslandReserve.NONE);
    }

    private static void isSo(String what, boolean isRight) {
        Check.due(what, isRight ? 1 : 0, 1);
    }
}
