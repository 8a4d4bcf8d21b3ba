import java.io.IOException;
import java.nio.file.Files;
import java.nio.file.Path;
import java.util.ArrayList;
import java.util.Arrays;
import java.util.LinkedHashMap;
import java.util.List;
import java.util.Map;
import java.util.Set;
import java.util.TreeSet;
import java.util.regex.Matcher;
import java.util.regex.Pattern;
import java.util.stream.Collectors;

/** What DOC.md says of the face: the constants, the calls, and the headings ahead of them. */
final class DocumentedFace {
    /** A call as the document writes it: "int", "plot", "int plot, int area", and the exceptions' names. */
    record Call(String returned, String name, List<String> types, List<String> parameters, List<String> exceptions) {
        String signature() {
            return returned + " " + name + "(" + String.join(",", types) + ")"
                    + (exceptions.isEmpty() ? "" : " throws " + String.join(",", exceptions));
        }
    }

    private static final Pattern CONSTANTS = Pattern.compile("public static final int ([^;]+);");
    private static final Pattern CALL = Pattern.compile("public (\\w+) (\\w+)\\(([^)]*)\\)(?: throws ([^;]+))?;");
    private static final Pattern HEADING = Pattern.compile("Ahead of the calls (.+) the interface says: (---- .+)\\.");

    final Set<String> constants = new TreeSet<>();
    final List<Call> calls = new ArrayList<>();
    /** The calls under each heading, by their order. */
    final Map<String, List<String>> headings = new LinkedHashMap<>();

    DocumentedFace(Path path) throws IOException {
        String text = Files.readString(path);
        int from = text.indexOf("```java");
        String face = text.substring(from, text.indexOf("```", from + 1));
        for (Matcher m = CONSTANTS.matcher(face); m.find();) {
            constants.addAll(split(m.group(1).replace(" = ", "=")));
        }
        for (Matcher m = CALL.matcher(face); m.find();) {
            List<String> typed = split(m.group(3));
            calls.add(new Call(m.group(1), m.group(2), part(typed, 0), part(typed, 1), split(m.group(4))));
        }
        for (Matcher m = HEADING.matcher(text); m.find();) {
            headings.put(m.group(2), split(m.group(1).replace("`", "")));
        }
    }

    private static List<String> split(String list) {
        return list == null || list.isBlank() ? List.of() : Arrays.asList(list.strip().split(",\\s*"));
    }

    private static List<String> part(List<String> typed, int which) {
        return typed.stream().map(parameter -> parameter.split(" ")[which]).collect(Collectors.toList());
    }
}
