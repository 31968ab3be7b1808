import java.io.IOException;
import java.nio.file.Files;
import java.nio.file.Path;
import java.util.ArrayList;
import java.util.List;
import java.util.regex.Matcher;
import java.util.regex.Pattern;

/** A method of the public face, as ../shared/DOC.md writes it. */
record Face(String answers, String name, List<String> types, List<String> parameters,
        List<String> thrown) {
    private static final Path DOC = Path.of("../shared/DOC.md");
    private static final Pattern METHOD = Pattern.compile(
            "    public (\\w+) (\\w+)\\(([^)]*)\\)(?: throws ([^;]+))?;");

    static List<Face> ofDocument() throws IOException {
        List<Face> face = new ArrayList<>();
        for (String line : Files.readAllLines(DOC)) {
            Matcher parts = METHOD.matcher(line);
            if (parts.matches()) {
                face.add(of(parts));
            }
        }
        return face;
    }

    private static Face of(Matcher parts) {
        List<String> types = new ArrayList<>();
        List<String> parameters = new ArrayList<>();
        for (String parameter : list(parts.group(3))) {
            types.add(parameter.split(" ")[0]);
            parameters.add(parameter.split(" ")[1]);
        }
        String thrown = parts.group(4) == null ? "" : parts.group(4);
        return new Face(parts.group(1), parts.group(2), types, parameters, list(thrown));
    }

    private static List<String> list(String told) {
        return told.isEmpty() ? List.of() : List.of(told.split(", "));
    }

    /** The call as it is written, with its parameters' names. */
    String call() {
        return name + "(" + String.join(", ", parameters) + ")";
    }
}
