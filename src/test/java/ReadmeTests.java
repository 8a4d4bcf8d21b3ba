import java.io.IOException;
import java.lang.reflect.InvocationTargetException;
import java.lang.reflect.Method;
import java.nio.file.Files;
import java.nio.file.Path;
import java.util.ArrayList;
import java.util.Arrays;
import java.util.List;
import java.util.Set;
import java.util.TreeSet;
import java.util.regex.Matcher;
import java.util.regex.Pattern;

/** What README.md says of the calls and the constants, and that its example answers as it tells. */
final class ReadmeTests {
    private static final Pattern ROW = Pattern.compile("\\| `(\\w+)\\((.*)\\)` \\|.*\\| (.*) \\| (.*) \\|");
    private static final Pattern CONSTANT = Pattern.compile("`([A-Z]+)`:? (-?\\d+)");
    private static final Pattern EXAMPLE = Pattern.compile("hall\\.(\\w+)\\((.*)\\);\\s+// (-?\\d+|\\w+Exception)(:.*)?");

    private ReadmeTests() {
    }

    static void all(String path, DocumentedFace face) throws IOException, ReflectiveOperationException {
        String text = Files.readString(Path.of(path));
        eachCallHasItsRow(text, face);
        eachConstantIsTold(text, face);
        theExampleAnswersAsTold(text);
    }

    private static void eachCallHasItsRow(String text, DocumentedFace face) {
        List<String> got = new ArrayList<>();
        for (Matcher m = ROW.matcher(text); m.find();) {
            String returned = m.group(3).endsWith("\\*") ? "long" : "int";
            got.add(returned + " " + m.group(1) + "(" + m.group(2) + ") " + m.group(4));
        }
        List<String> due = new ArrayList<>();
        for (DocumentedFace.Call call : face.calls) {
            due.add(call.returned() + " " + call.name() + "(" + String.join(", ", call.parameters()) + ") "
                    + shortly(call.exceptions()));
        }
        Tally.check(got.equals(due), "README.md tells the calls as " + got + ", due is " + due);
    }

    private static String shortly(List<String> exceptions) {
        String names = String.join(", ", exceptions).replace("IndexOutOfBoundsException", "Index")
                .replace("IllegalArgumentException", "Argument").replace("IllegalStateException", "State");
        return names.isEmpty() ? "-" : names;
    }

    private static void eachConstantIsTold(String text, DocumentedFace face) {
        Set<String> got = new TreeSet<>();
        for (Matcher m = CONSTANT.matcher(text); m.find();) {
            got.add(m.group(1) + "=" + m.group(2));
        }
        Tally.check(got.equals(face.constants), "README.md tells the constants as " + got);
    }

    private static void theExampleAnswersAsTold(String text) throws ReflectiveOperationException {
        int from = text.indexOf("```java");
        String[] lines = text.substring(from, text.indexOf("```", from + 1)).strip().split("\n");
        Tally.check(lines[1].equals("Takinghall hall = new Takinghall();"), "the example begins otherwise");
        Takinghall hall = new Takinghall();
        for (String line : Arrays.copyOfRange(lines, 2, lines.length)) {
            Matcher m = EXAMPLE.matcher(line);
            boolean isCall = m.matches();
            Tally.check(isCall, "this line of the example cannot be read: " + line);
            if (isCall) {
                String got = answer(hall, m.group(1), m.group(2).isEmpty() ? new String[0] : m.group(2).split(", "));
                Tally.check(got.equals(m.group(3)), "answered " + got + ": " + line);
            }
        }
    }

    private static String answer(Takinghall hall, String name, String[] given) throws ReflectiveOperationException {
        Object[] arguments = new Object[given.length];
        for (int i = 0; i < given.length; i++) {
            arguments[i] = value(given[i]);
        }
        for (Method method : Takinghall.class.getMethods()) {
            if (method.getName().equals(name)) {
                try {
                    return method.invoke(hall, arguments).toString();
                } catch (InvocationTargetException e) {
                    return e.getCause().getClass().getSimpleName();
                }
            }
        }
        return "no such call";
    }

    private static Object value(String written) throws ReflectiveOperationException {
        if (written.equals("true") || written.equals("false")) {
            return Boolean.valueOf(written);
        }
        String constant = "Takinghall.";
        return written.startsWith(constant) ? Takinghall.class.getField(written.substring(constant.length())).get(null)
                : (Object) Integer.valueOf(written);
    }
}
