import java.io.IOException;
import java.nio.file.Files;
import java.nio.file.Path;
import java.util.ArrayList;
import java.util.BitSet;
import java.util.LinkedHashMap;
import java.util.List;
import java.util.Map;

/** The document's own words: where a quote stands, and which words of the promises and terms no quote has met. */
final class Document {
    static final Path PATH = Path.of("../shared/DOC.md");
    static final int PROMISES = 34;

    private static final String TERMS = "Terms", AHEAD = "What it is", FACE = "The public face";
    /** What stands in the terms without being a sentence: the numbers of their parts, and the marks of a block. */
    private static final String MARKS = "==== \\d|```(text)?";
    /** Behind this the terms tell only under which heading a call stands in the interface. */
    private static final String HEADINGS = "Ahead of the calls `shop`";

    private final Map<String, String> parts = new LinkedHashMap<>();
    private final Map<String, BitSet> quoted = new LinkedHashMap<>();

    Document() throws IOException {
        for (String part : Files.readString(PATH).split("\n## ")) {
            String[] halves = part.split("\n", 2);
            String name = halves[0].startsWith("Promise ") ? halves[0].substring(8, halves[0].indexOf(':')) : halves[0];
            // What stands in ` ` ahead of a promise's own words is the head of the call.
            String words = halves.length < 2 ? "" : halves[1].replaceAll("^\\s*`[^`]*`: ", "");
            parts.put(name, words.replaceAll("\\s+", " ").strip());
            quoted.put(name, new BitSet());
        }
    }

    /** The lines that the document's interface has, in its order. */
    static List<String> face() throws IOException {
        for (String part : Files.readString(PATH).split("\n## ")) {
            if (part.startsWith(FACE)) {
                return part.lines().map(String::strip).filter(line -> line.startsWith("public ")).toList();
            }
        }
        return List.of();
    }

    /** Whether the words stand in the promise, in the terms, or ahead of them; they count as quoted from then on. */
    boolean has(int promise, String quote) {
        for (String name : List.of(String.valueOf(promise), TERMS, AHEAD)) {
            int at = parts.getOrDefault(name, "").indexOf(quote);
            if (at >= 0) {
                quoted.get(name).set(at, at + quote.length());
                return true;
            }
        }
        return false;
    }

    /** The words of the promises and of the terms that stand in no quote. */
    List<String> unquoted() {
        List<String> missing = new ArrayList<>();
        for (int promise = 1; promise <= PROMISES; promise++) {
            addUnquoted(missing, String.valueOf(promise));
        }
        addUnquoted(missing, TERMS);
        return missing;
    }

    private void addUnquoted(List<String> missing, String name) {
        String words = parts.getOrDefault(name, "");
        int end = words.contains(HEADINGS) ? words.indexOf(HEADINGS) : words.length();
        BitSet met = quoted.getOrDefault(name, new BitSet());
        for (int from = met.nextClearBit(0); from < end; from = met.nextClearBit(from)) {
            int to = met.nextSetBit(from) < 0 ? end : Math.min(end, met.nextSetBit(from));
            String rest = words.substring(from, to).replaceAll(MARKS, "").strip();
            if (rest.matches(".*[A-Za-z0-9].*")) {
                missing.add(name + ": .." + rest + "..");
            }
            from = to;
        }
        if (words.isEmpty()) {
            missing.add(name + " is not in the document");
        }
    }
}
