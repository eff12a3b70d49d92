import java.io.IOException;
import java.nio.charset.StandardCharsets;
import java.nio.file.Files;
import java.nio.file.Path;
import java.util.BitSet;
import java.util.List;
import java.util.function.Supplier;
import java.util.function.ToLongFunction;

/**
 * Answers that are due at the bounds that one sentence of the document names at a time. Each sentence is quoted as
 * it stands; at the end no word of the document's terms and promises may be left that nobody quoted.
 */
final class Bounds {
    static final int NONE = ShadeRegister.NONE;
    private static final Path DOCUMENT = Path.of("../shared/DOC.md");

    private final Check check;
    private final String document;
    private final BitSet quoted = new BitSet();
    private String sentence = "";

    Bounds(Check check) throws IOException {
        this.check = check;
        document = promisedPart(Files.readString(DOCUMENT, StandardCharsets.UTF_8));
    }

    /** The document from its terms on up to what isn't promised, without headings, fences and signatures. */
    private static String promisedPart(String whole) {
        StringBuilder part = new StringBuilder();
        boolean within = false;
        for (String line : whole.lines().toList()) {
            if (line.startsWith("## ")) {
                within = line.startsWith("## Terms") || line.startsWith("## Promise ");
            } else if (within && !line.startsWith("```") || line.startsWith("An object is used")) {
                part.append(line.replaceFirst("^`[^`]*`: ", "")).append('\n');
            }
        }
        return part.toString().replaceAll("==== [IVX]+\\.", "").replaceAll("\\s+", " ").trim();
    }

    /** From here on the answers are those that this sentence asks for. */
    void of(String words) {
        int at = document.indexOf(words);
        sentence = words.length() > 50 ? words.substring(0, 50) + " .." : words;
        check.holds("stands in the document: " + words, at >= 0);
        check.holds("stands there once: " + words, document.indexOf(words, at + 1) < 0);
        if (at >= 0) {
            quoted.set(at, at + words.length());
        }
    }

    void due(String what, long got, long want) {
        check.due(what + " [" + sentence + "]", got, want);
    }

    void due(String what, boolean got, boolean want) {
        due(what, bit(got), bit(want));
    }

    static long bit(boolean answer) {
        return answer ? 1 : 0;
    }

    /** A call that is refused with an answer, and leaves everything as it was. */
    void refused(Supplier<ShadeRegister> town, String what, ToLongFunction<ShadeRegister> call, long want) {
        ShadeRegister x = town.get();
        due(what, call.applyAsLong(x), want);
        List<Long> after = Look.at(x);
        List<Long> before = Look.at(town.get());
        for (int i = 0; i < before.size() || i < after.size(); i++) {
            if (i >= before.size() || i >= after.size() || !before.get(i).equals(after.get(i))) {
                due(what + ": nothing is changed, look " + i, 1, 0);
                return;
            }
        }
        due(what + ": nothing is changed", 0, 0);
    }

    void refused(String what, ToLongFunction<ShadeRegister> call, long want) {
        refused(Towns::rich, what, call, want);
    }

    void end() {
        int from = quoted.nextClearBit(0);
        while (from < document.length()) {
            int next = quoted.nextSetBit(from);
            int to = next < 0 ? document.length() : next;
            String left = document.substring(from, to);
            check.holds("nobody quoted: " + left, !left.matches(".*[A-Za-z0-9].*"));
            from = quoted.nextClearBit(to);
        }
        check.end();
    }
}
