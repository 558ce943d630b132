import java.io.IOException;
import java.nio.charset.StandardCharsets;
import java.nio.file.Files;
import java.nio.file.Path;
import java.util.ArrayList;
import java.util.BitSet;
import java.util.LinkedHashMap;
import java.util.List;
import java.util.Map;

/** The words of ../shared/DOC.md that bind, section by section, and which of them a test bears. */
final class Document {
    private static final Path PLACE = Path.of("../shared/DOC.md");
    private final Map<String, String> words = new LinkedHashMap<>();
    private final Map<String, BitSet> borne = new LinkedHashMap<>();

    static Document read() throws IOException {
        Document d = new Document();
        if (!Files.isReadable(PLACE)) {
            System.out.println(PLACE + " is not there: the sentences are tested, but not compared with it");
            return d;
        }
        String section = "";
        for (String line : Files.readAllLines(PLACE, StandardCharsets.UTF_8)) {
            section = sectionFrom(line, section);
            if (!line.startsWith("## ") && !line.startsWith("```") && !line.startsWith("Ahead of the calls")) {
                d.add(section, line.startsWith("==== ") ? line.substring("==== N ".length()) : line);
            }
        }
        return d;
    }

    /** "use" is what stands ahead of the face; the face itself is FaceTest's. */
    private static String sectionFrom(String line, String before) {
        if (line.startsWith("An object is used for")) {
            return "use";
        }
        if (line.startsWith("==== ")) {
            return "term " + line.charAt("==== ".length());
        }
        if (line.startsWith("## Promise ")) {
            return "promise " + line.substring("## Promise ".length(), line.indexOf(':'));
        }
        return line.startsWith("## ") ? "" : before;
    }

    private void add(String section, String line) {
        boolean face = section.startsWith("promise") && line.startsWith("`");
        String said = face ? line.substring(line.indexOf("`:") + 2) : line;
        words.merge(section, said.strip(), (a, b) -> (a + " " + b).strip());
    }

    /** A test bears this sentence; false, if it doesn't stand in the section (once more). */
    boolean bear(String section, String sentence) {
        if (words.isEmpty()) {
            return true;
        }
        String said = words.getOrDefault(section, "");
        BitSet bits = borne.computeIfAbsent(section, s -> new BitSet());
        for (int at = said.indexOf(sentence); at >= 0; at = said.indexOf(sentence, at + 1)) {
            if (!bits.get(at)) {
                bits.set(at, at + sentence.length());
                return true;
            }
        }
        return false;
    }

    /** What stands in the document and no test bears. */
    List<String> unborne() {
        List<String> all = new ArrayList<>();
        for (Map.Entry<String, String> e : words.entrySet()) {
            if (!e.getKey().isEmpty()) {
                BitSet bits = borne.getOrDefault(e.getKey(), new BitSet());
                unborneOf(e.getKey(), e.getValue(), bits, all);
            }
        }
        return all;
    }

    private static void unborneOf(String section, String said, BitSet bits, List<String> all) {
        for (int from = bits.nextClearBit(0); from < said.length(); ) {
            int to = bits.nextSetBit(from) < 0 ? said.length() : bits.nextSetBit(from);
            String piece = said.substring(from, to).strip();
            if (!piece.isEmpty()) {
                all.add(section + ": " + piece);
            }
            from = bits.nextClearBit(to);
        }
    }
}
