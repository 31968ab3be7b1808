import java.io.IOException;
import java.nio.file.Files;
import java.nio.file.Path;
import java.util.ArrayList;
import java.util.List;
import java.util.Map;
import java.util.regex.Matcher;
import java.util.regex.Pattern;

/** README.md: its example answers what stands beside it, and each call of the face has a row that
 * tells its arguments, whether it is undoable, and what it throws. */
final class ReadmeTest {
    private static final Pattern EXCEPTION = Pattern.compile("\\w+Exception");
    private static final List<Map.Entry<String, Check.Ask>> EXAMPLE = List.of(
            Map.entry("island.start(0);", x -> x.start(0)),
            Map.entry("island.start(1);", x -> x.start(1)),
            Map.entry("island.pass(3);", x -> x.pass(3)),
            Map.entry("island.hour(2, 1);", x -> x.hour(2, 1)),
            Map.entry("island.hour(2, 5);", x -> x.hour(2, 5)),
            Map.entry("island.count(4);", x -> x.count(4)),
            Map.entry("island.ifLost(0);", x -> x.ifLost(0)),
            Map.entry("island.cheapest(20, 0);", x -> x.cheapest(20, 0)),
            Map.entry("island.start(0);", x -> x.start(0)),
            Map.entry("island.undo();", IslandReserve::undo),
            Map.entry("island.firstError();", ReadmeTest::firstErrorOfThePlan),
            Map.entry("island.run();", IslandReserve::run),
            Map.entry("island.undo();", IslandReserve::undo));
    private static final String PLAN = "f20=450;+2;h10";

    private ReadmeTest() { }

    public static void main(String[] args) throws IOException {
        List<String> lines = Files.readAllLines(Path.of("README.md"));
        exampleAnswers(lines);
        String document = Files.readString(Path.of("../shared/DOC.md"));
        for (Face method : Face.ofDocument()) {
            hasARow(lines, method, document);
        }
        Check.end();
    }

    private static long firstErrorOfThePlan(IslandReserve x) {
        Check.type(x, PLAN);
        return x.firstError();
    }

    private static void exampleAnswers(List<String> lines) {
        isSo("the plan of the example", lines.contains("for (char sign : \"" + PLAN
                + "\".toCharArray()) {"));
        List<String> told = new ArrayList<>();
        for (String line : lines) {
            if (line.startsWith("island.") && line.contains(" // ")) {
                told.add(line);
            }
        }
        Check.due("lines of the example", told.size(), EXAMPLE.size());
        IslandReserve island = new IslandReserve();
        for (int place = 0; place < Math.min(told.size(), EXAMPLE.size()); place++) {
            String[] parts = told.get(place).split(" +// (throws )?");
            Check.dueText("the example's call " + place, parts[0], EXAMPLE.get(place).getKey());
            String answer = Check.outcome(island, EXAMPLE.get(place).getValue());
            Check.dueText(told.get(place), answer, parts[1].split("[: ,]")[0]);
        }
    }

    private static void hasARow(List<String> lines, Face method, String document) {
        String call = "| `" + method.call() + "`";
        boolean isUndoable = promise(method, document).contains("Undoable");
        List<String> rows = new ArrayList<>();
        for (String line : lines) {
            if (line.startsWith(call + (isUndoable ? " u |" : " |"))) {
                rows.add(line);
            }
        }
        Check.due("rows of " + method.call(), rows.size(), 1);
        for (String row : rows) {
            List<String> cells = List.of(row.substring(2).split(" \\|"));
            Check.due("cells of " + method.call(), cells.size(), 4);
            isSo("what it returns: " + method.call(), !cells.get(2).isBlank());
            Check.dueText("what it throws: " + method.call(), exceptions(row),
                    String.join(" ", method.thrown()));
        }
    }

    /** The document's words about a method. */
    private static String promise(Face method, String document) {
        int from = document.indexOf(": " + method.name() + "\n");
        isSo("a promise of " + method.name(), from >= 0);
        return document.substring(Math.max(from, 0), document.indexOf("\n## ", from));
    }

    private static String exceptions(String row) {
        List<String> named = new ArrayList<>();
        Matcher exception = EXCEPTION.matcher(row);
        while (exception.find()) {
            named.add(exception.group());
        }
        return String.join(" ", named);
    }

    private static void isSo(String what, boolean isRight) {
        Check.due(what, isRight ? 1 : 0, 1);
    }
}
