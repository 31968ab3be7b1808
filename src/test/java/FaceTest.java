import java.io.IOException;
import java.lang.reflect.Field;
import java.lang.reflect.Method;
import java.lang.reflect.Modifier;
import java.nio.file.Files;
import java.nio.file.Path;
import java.util.Arrays;
import java.util.HashSet;
import java.util.List;
import java.util.Set;
import java.util.TreeSet;
import java.util.stream.Collectors;

/** The public face, and the rules of LANGUAGE.md that can be read off the class and its source. */
final class FaceTest {
    private static final String IAE = "IllegalArgumentException";
    private static final String ISE = "IllegalStateException";
    private static final String IOOBE = "IndexOutOfBoundsException";
    private static final List<String> FACE = List.of(
            "int rate(int, int, int, int, int) " + IAE + " " + ISE,
            "int start(int) " + IAE + " " + ISE,
            "int stop(int) " + IAE + " " + ISE,
            "int lose(int) " + IAE,
            "int shed()",
            "int forecast(int, int) " + IAE,
            "int pass(int) " + IAE + " " + ISE,
            "int set(int, int) " + IOOBE + " " + IAE,
            "int append(int) " + IAE + " " + ISE,
            "int clearBuffer()",
            "int firstError()",
            "int run() " + IAE,
            "int undo() " + ISE,
            "int setOf(int, int) " + IAE,
            "int hour(int, int) " + IAE,
            "int count(int) " + IAE,
            "int setting(int) " + IOOBE,
            "int ifLost(int) " + IAE,
            "int cheapest(int, int) " + IAE,
            "int firstDark()",
            "int ifShed()",
            "int bestStart()",
            "double safeShare()",
            "long digest()");

    private FaceTest() { }

    public static void main(String[] args) throws IOException {
        methodsOfTheFace();
        noneIsMinus1();
        fieldsAndClasses();
        privateNames();
        signsOfTheSource();
        Check.end();
    }

    private static String told(Method method) {
        String types = Arrays.stream(method.getParameterTypes()).map(Class::getSimpleName)
                .collect(Collectors.joining(", "));
        String thrown = Arrays.stream(method.getExceptionTypes())
                .map(type -> " " + type.getSimpleName()).collect(Collectors.joining());
        return method.getReturnType().getSimpleName() + " " + method.getName() + "(" + types + ")"
                + thrown;
    }

    /** Doc, Exceptions: Ahead of the calls `rate`, `start`, `stop`, `lose` the interface says:
     * ---- sets. | Doc, Exceptions: Ahead of the calls `shed`, `forecast`, `pass`, `set` the
     * interface says: ---- loads, hours. | Doc, Exceptions: Ahead of the calls `append`,
     * `clearBuffer`, `firstError`, `run`, `undo` the interface says: ---- the buffer. */
    private static void methodsOfTheFace() {
        Set<String> got = new TreeSet<>();
        for (Method method : IslandReserve.class.getDeclaredMethods()) {
            if (!Modifier.isPrivate(method.getModifiers()) && !method.isSynthetic()) {
                isSo("public: " + method, Modifier.isPublic(method.getModifiers()));
                got.add(told(method));
            }
        }
        isSo("the face, not " + got, got.equals(new TreeSet<>(FACE)));
        isSo("one constructor", IslandReserve.class.getDeclaredConstructors().length == 1);
        isSo("a public one", IslandReserve.class.getConstructors().length == 1);
        isSo("a final class", Modifier.isFinal(IslandReserve.class.getModifiers()));
    }

    /** Doc, Exceptions: The constants: `NONE = -1`: There is nothing to return. */
    private static void noneIsMinus1() {
        Check.due("NONE", IslandReserve.NONE, -1);
        IslandReserve x = new IslandReserve();
        x.lose(0);
        x.lose(1);
        x.lose(2);
        x.lose(3);
        Check.due("no best start", x.bestStart(), IslandReserve.NONE);
        Check.due("no cheapest sets", x.cheapest(0, 0), IslandReserve.NONE);
        Check.due("no fuel of them", x.cheapest(0, 1), IslandReserve.NONE);
        Check.due("no hour yet", x.hour(0, 1), IslandReserve.NONE);
        x.pass(48);
        Check.due("no dark hour any more", x.firstDark(), IslandReserve.NONE);
    }

    private static void fieldsAndClasses() {
        for (Field field : IslandReserve.class.getDeclaredFields()) {
            boolean isPrivate = Modifier.isPrivate(field.getModifiers());
            isSo("private: " + field, isPrivate || field.getName().equals("NONE"));
            boolean isStatic = Modifier.isStatic(field.getModifiers());
            isSo("final: " + field, !isStatic || Modifier.isFinal(field.getModifiers()));
        }
        for (Class<?> inside : IslandReserve.class.getDeclaredClasses()) {
            int modifiers = inside.getModifiers();
            isSo("static: " + inside, Modifier.isStatic(modifiers));
            isSo("not public: " + inside, !Modifier.isPublic(modifiers));
        }
    }

    private static void privateNames() {
        Set<String> face = new HashSet<>();
        for (Method method : IslandReserve.class.getMethods()) {
            face.add(method.getName());
        }
        checkNames(IslandReserve.class, face);
        for (Class<?> inside : IslandReserve.class.getDeclaredClasses()) {
            checkNames(inside, face);
        }
    }

    private static void checkNames(Class<?> owner, Set<String> face) {
        for (Method method : owner.getDeclaredMethods()) {
            boolean isOfFace = Modifier.isPublic(method.getModifiers());
            isSo("a name of its own: " + method, isOfFace || !face.contains(method.getName()));
            isSo("at most seven parameters: " + method, method.getParameterCount() <= 7);
        }
    }

    private static void signsOfTheSource() throws IOException {
        String source = Files.readString(Path.of("src/main/java/IslandReserve.java"));
        String code = source.replaceAll("(?s)/\\*.*?\\*/", " ").replaceAll("//[^\n]*", " ");
        for (String refused : new String[] {"->", "::", "try ", "catch", "finally", "synchronized",
            "assert ", "package ", "Double", "Exact", "Object", "Random", "Thread", "static {"}) {
            isSo("no " + refused, !code.contains(refused));
        }
        isSo("ASCII alone",
                source.chars().allMatch(sign -> sign == 10 || sign >= 32 && sign < 127));
        for (String line : code.split("\n")) {
            boolean isRight = !line.startsWith("import ")
                    || line.equals("import java.util.Arrays;");
            isSo("an import: " + line, isRight);
            isSo("only System.arraycopy: " + line,
                    !line.replace("System.arraycopy", "").contains("System"));
        }
    }

    private static void isSo(String what, boolean isRight) {
        Check.due(what, isRight ? 1 : 0, 1);
    }
}
