import java.io.IOException;
import java.nio.file.Files;
import java.nio.file.Path;
import java.util.BitSet;

/** Checks told under the sentence of the document that asks for them; at the end each sentence must have been told. */
final class Sentences {
    private static final Path DOC = Path.of("..", "shared", "DOC.md");
    private static final int PROMISES = 50;

    private final Checks checks;
    private final String doc;
    private final BitSet heard = new BitSet();
    private String sentence = "";

    Sentences(String name) throws IOException {
        checks = new Checks(name);
        doc = Files.readString(DOC).replace("```text", "").replace("```", "").replaceAll("\\s+", " ");
    }

    /** What follows is asked by these words of this promise, or, with 0, of what stands ahead of all promises. */
    void says(int promise, String words) {
        sentence = (promise == 0 ? "terms" : "promise " + promise) + ": \"" + words + "\": ";
        int from = promise == 0 ? 0 : start(promise);
        int at = doc.indexOf(words, from);
        boolean stands = from >= 0 && at >= 0 && at + words.length() <= start(promise + 1);
        due("stands in the document", stands ? 1 : 0, 1);
        if (stands) {
            heard.set(from);
            heard.set(at, at + words.length());
        }
    }

    private int start(int promise) {
        return doc.indexOf(promise > PROMISES ? "## Not promised" : "## Promise " + promise + ":");
    }

    void due(String what, long got, long want) {
        checks.due(sentence + what, got, want);
    }

    void fine(String what, ItchParish x, long got, long want) {
        checks.fine(sentence + what, x, got, want);
    }

    void fine(String what, ItchParish x, boolean got) {
        checks.fine(sentence + what, x, got);
    }

    void refused(String what, ItchParish x, long got, int status) {
        checks.refused(sentence + what, x, got, status);
    }

    void refused(String what, ItchParish x, boolean got, int status) {
        checks.refused(sentence + what, x, got, status);
    }

    void fraction(String what, ItchParish x, boolean got, long top, long bottom) {
        checks.fraction(sentence + what, x, got, top, bottom);
    }

    /** A DISTRICT that is refused with this FAULT at this place. */
    void districtFault(String text, int kind, int place) {
        ItchParish x = new ItchParish();
        refused("district " + text, x, Checks.district(x, text), 10);
        due("fault(0) of " + text, x.fault(0), kind);
        due("fault(1) of " + text, x.fault(1), place);
    }

    /** DAYS that are refused with this FAULT at this place. */
    void daysFault(String district, String text, int kind, int place) {
        ItchParish x = Checks.with(district);
        refused("days " + text, x, Checks.days(x, text), 10);
        due("fault(0) of " + text, x.fault(0), kind);
        due("fault(1) of " + text, x.fault(1), place);
    }

    /** All words of the terms and of the promises must have been told. */
    void end() {
        sentence = "";
        for (int promise = 1; promise <= PROMISES; promise++) {
            due("promise " + promise + " is told of", heard.get(start(promise)) ? 1 : 0, 1);
        }
        due("not told of: " + rest(), rest().isEmpty() ? 1 : 0, 1);
        checks.end();
    }

    private String rest() {
        StringBuilder rest = new StringBuilder(doc);
        for (int at = heard.nextSetBit(0); at >= 0; at = heard.nextSetBit(at + 1)) {
            rest.setCharAt(at, ' ');
        }
        String told = rest.substring(doc.indexOf("## Terms") + 8, start(PROMISES + 1));
        return told.replaceAll("# Promise \\d+: [A-Za-z ]+ `[^`]*`:", "").replaceAll("Ahead of the calls [`a-zA-Z, ]+ the interface says: ---- [A-Za-z, ]+\\.", "")
            .replaceAll("==== \\d\\.", "").replaceAll("[^A-Za-z0-9]+", " ").trim();
    }
}
