import java.io.IOException;
import java.nio.file.Files;
import java.nio.file.Path;
import java.util.BitSet;
import java.util.regex.Matcher;
import java.util.regex.Pattern;

/** Checks told under the sentence of the document that asks for them; at the end each sentence must have been told. */
final class Sentences {
    private static final Path DOC = Path.of("..", "shared", "DOC.md");
    private static final int PROMISES = 50;

    private final Checks checks;
    private final String doc;
    private final BitSet heard = new BitSet();
    private int promise = 0;
    private String words = "";

    Sentences(String name) throws IOException {
        checks = new Checks(name);
        doc = Files.readString(DOC).replace("```text", "").replace("```", "").replaceAll("\\s+", " ");
    }

    /** What follows is asked by these words, which stand in this promise or in the terms ahead of all promises. */
    void says(int number, String sentence) {
        words = sentence;
        promise = number;
        int at = doc.indexOf(words, start(promise));
        boolean isOwn = at >= 0 && at + words.length() <= start(promise + 1);
        at = isOwn ? at : doc.indexOf(words);
        boolean stands = isOwn || at >= 0 && at + words.length() <= start(1);
        due("stands in the document", stands ? 1 : 0, 1);
        if (stands) {
            heard.set(start(promise));
            heard.set(at, at + words.length());
        }
    }

    /** The same words, now of the promise of this call. */
    void saysOf(String call) {
        Matcher named = Pattern.compile("## Promise (\\d+): " + call + " ").matcher(doc);
        promise = named.find() ? Integer.parseInt(named.group(1)) : 0;
        due(call + " is promised", promise > 0 ? 1 : 0, 1);
    }

    private String label(String what) {
        return "promise " + promise + ": \"" + words + "\": " + what;
    }

    private int start(int promise) {
        return doc.indexOf(promise > PROMISES ? "## Not promised" : "## Promise " + promise + ":");
    }

    void due(String what, long got, long want) {
        checks.due(label(what), got, want);
    }

    void fine(String what, ItchParish x, long got, long want) {
        checks.fine(label(what), x, got, want);
    }

    void fine(String what, ItchParish x, boolean got) {
        checks.fine(label(what), x, got);
    }

    void refused(String what, ItchParish x, long got, int status) {
        checks.refused(label(what), x, got, status);
    }

    void refused(String what, ItchParish x, boolean got, int status) {
        checks.refused(label(what), x, got, status);
    }

    void fraction(String what, ItchParish x, boolean got, long top, long bottom) {
        checks.fraction(label(what), x, got, top, bottom);
    }

    /** A DISTRICT that is refused with this FAULT at this place. */
    void districtFault(String text, int kind, int place) {
        ItchParish x = new ItchParish();
        refused("district " + text, x, Checks.district(x, text), 10);
        due("fault(0) of " + text, x.fault(0), kind);
        due("fault(1) of " + text, x.fault(1), place);
    }

    /** DAYS that are refused with this FAULT at this place. */
    void daysFault(String district, String text, int kind, int place) {
        ItchParish x = Checks.with(district);
        refused("days " + text, x, Checks.days(x, text), 10);
        due("fault(0) of " + text, x.fault(0), kind);
        due("fault(1) of " + text, x.fault(1), place);
    }

    /** All words of the terms and of the promises must have been told. */
    void end() {
        for (int number = 1; number <= PROMISES; number++) {
            checks.due("promise " + number + " is told of", heard.get(start(number)), true);
        }
        checks.due("not told of: " + rest(), rest().isEmpty(), true);
        checks.end();
    }

    private String rest() {
        StringBuilder rest = new StringBuilder(doc);
        for (int at = heard.nextSetBit(0); at >= 0; at = heard.nextSetBit(at + 1)) {
            rest.setCharAt(at, ' ');
        }
        String untold = rest.substring(doc.indexOf("## Terms") + 8, start(PROMISES + 1));
        return untold.replaceAll("# Promise \\d+: [A-Za-z ]+ `[^`]*`:", "")
            .replaceAll("Ahead of the calls [`a-zA-Z, ]+ the interface says: ---- [A-Za-z, ]+\\.", "")
            .replaceAll("==== \\d\\.", "").replaceAll("[^A-Za-z0-9]+", " ").trim();
    }
}
