import java.io.IOException;
import java.nio.file.Files;
import java.nio.file.Path;
import java.util.ArrayList;
import java.util.BitSet;
import java.util.LinkedHashMap;
import java.util.List;
import java.util.Map;
import java.util.regex.Matcher;
import java.util.regex.Pattern;

/** The document's own words: where a quote stands, and which words that name a boundary no quote has met. */
final class Document {
    static final Path PATH = Path.of("../shared/DOC.md");
    static final int PROMISES = 34;

    private static final String TERMS = "Terms", AHEAD = "What it is";
    private static final Pattern IN_A_PROMISE = Pattern.compile("UNKNOWN|OUTSIDE|STATE|FULL|NONE|LOST|CAST|NULL|INDEX"
            + "|SIZE(?=[.:])|\\.\\.|fewer|never|0: |-100 less|as they were|as it was|nothing|ahead of any"
            + "|without a SHOP");
    private static final Pattern IN_THE_TERMS = Pattern.compile("UNKNOWN|OUTSIDE|STATE|FULL|NULL|CAST|INDEX|SIZE \\(a"
            + "|NONE|LOST|\\.\\.|at most|at least|at first|no more|too soon|seventh|wraps|is cut|or more|of several"
            + "|but once|come again|not put back|fewest|has them|above 0|changes? nothing|anew|in the order|below 0"
            + "|2 or 4|1 to 6|first code|the first one|that is left|as bits");

    private final Map<String, String> parts = new LinkedHashMap<>();
    private final Map<String, BitSet> quoted = new LinkedHashMap<>();

    Document() throws IOException {
        for (String part : Files.readString(PATH).split("\n## ")) {
            String[] halves = part.split("\n", 2);
            String name = halves[0].startsWith("Promise ") ? halves[0].substring(8, halves[0].indexOf(':')) : halves[0];
            // What stands in ` ` ahead of a promise's own words is the head of the call.
            String words = halves.length < 2 ? "" : halves[1].replaceAll("^\\s*`[^`]*`: ", "");
            parts.put(name, words.replaceAll("\\s+", " ").strip());
            quoted.put(name, new BitSet());
        }
    }

    /** Whether the words stand in the promise, in the terms, or ahead of them; they count as quoted from then on. */
    boolean has(int promise, String quote) {
        for (String name : List.of(String.valueOf(promise), TERMS, AHEAD)) {
            int at = parts.getOrDefault(name, "").indexOf(quote);
            if (at >= 0) {
                quoted.get(name).set(at, at + quote.length());
                return true;
            }
        }
        return false;
    }

    List<String> unquoted() {
        List<String> missing = new ArrayList<>();
        for (int promise = 1; promise <= PROMISES; promise++) {
            addUnquoted(missing, String.valueOf(promise), IN_A_PROMISE);
        }
        addUnquoted(missing, TERMS, IN_THE_TERMS);
        return missing;
    }

    private void addUnquoted(List<String> missing, String name, Pattern boundary) {
        String words = parts.getOrDefault(name, "");
        Matcher m = boundary.matcher(words);
        while (m.find()) {
            if (!quoted.get(name).get(m.start())) {
                int to = Math.min(words.length(), m.end() + 30);
                missing.add(name + ": .." + words.substring(Math.max(0, m.start() - 30), to) + "..");
            }
        }
        if (words.isEmpty()) {
            missing.add(name + " is not in the document");
        }
    }
}
