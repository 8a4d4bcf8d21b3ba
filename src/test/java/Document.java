import java.io.IOException;
import java.nio.file.Files;
import java.nio.file.Path;
import java.util.ArrayList;
import java.util.BitSet;
import java.util.LinkedHashMap;
import java.util.List;
import java.util.Map;

/** DOC.md by its headings, and what of it the tests have quoted. */
final class Document {
    /** How the interface is headed, which FaceTests looks at, and a list of what other sentences say. */
    private static final List<String> WITHOUT_TEST = List.of("Ahead of the calls", "---- ",
            "PLOTS with prices that change by days, INTERESTS in them");

    private final Map<String, StringBuilder> sections = new LinkedHashMap<>();
    private final Map<String, BitSet> quoted = new LinkedHashMap<>();

    Document(Path path) throws IOException {
        StringBuilder section = new StringBuilder();
        for (String line : Files.readAllLines(path)) {
            if (line.startsWith("#")) {
                section = new StringBuilder();
                sections.put(line.replaceAll("^#+ ", "").replaceAll("^(Promise \\d+):.*", "$1"), section);
            } else {
                section.append(line).append('\n');
            }
        }
        sections.keySet().removeAll(List.of("Takinghall", "The public face", "Not promised"));
        sections.keySet().forEach(heading -> quoted.put(heading, new BitSet()));
    }

    /** Remembers that a test quotes some words; tells whether they stand under that heading. */
    boolean quote(String heading, String words) {
        StringBuilder section = sections.get(heading);
        int from = section == null ? -1 : section.indexOf(words);
        if (from < 0) {
            return false;
        }
        for (int at = from; at >= 0; at = section.indexOf(words, at + 1)) {
            quoted.get(heading).set(at, at + words.length());
        }
        return true;
    }

    /** The clauses of which no test has quoted a word. */
    List<String> withoutTest() {
        List<String> found = new ArrayList<>();
        sections.forEach((heading, text) -> {
            int from = 0;
            for (String clause : text.toString().split("(?<=[.;:]\\s)|(?=@)|(?<=\n)")) {
                int firstQuoted = quoted.get(heading).nextSetBit(from);
                boolean isQuoted = firstQuoted >= 0 && firstQuoted < from + clause.length();
                from += clause.length();
                if (!isQuoted && !clause.isBlank() && !clause.startsWith("`")
                        && WITHOUT_TEST.stream().noneMatch(clause::startsWith)) {
                    found.add(heading + ": " + clause.strip());
                }
            }
        });
        return found;
    }
}
