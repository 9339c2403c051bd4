import java.io.IOException;
import java.nio.file.Files;
import java.nio.file.Path;
import java.util.ArrayList;
import java.util.List;
import java.util.stream.Stream;

/** That README.md says what the document says, and that its example answers as it tells. */
public final class ReadmeTest {
    private static final Path TESTS = Path.of("src", "test", "java");
    private static final String REFUSED = "A call with another STATUS than 0 gives NONE, or false, and changes nothing but STATUS "
        + "(but district(), days() with 10 the tape, and what fault() tells).";
    private static final String NO_STATUS = "status(), fault(), feed(), top(), bottom() have none.";
    private static final String BELOW_ZERO = "Where a number may be below 0, STATUS tells NONE from -1.";
    private static final String CALLS = "An object is used for at most 512 calls after it has been made; what later calls answer is free.";
    private static final Checks CHECKS = new Checks("ReadmeTest");

    public static void main(String[] args) throws IOException {
        words();
        tests();
        exampleStands();
        exampleAnswers();
        textWithFault();
        CHECKS.end();
    }

    private static String oneLine(Path file) throws IOException {
        return Files.readString(file).replaceAll("\\s+", " ");
    }

    private static void words() throws IOException {
        String readme = oneLine(Path.of("README.md"));
        String doc = oneLine(Path.of("..", "shared", "DOC.md"));
        for (String words : new String[] {REFUSED, NO_STATUS, BELOW_ZERO, CALLS}) {
            CHECKS.due("the document says: " + words, doc.contains(words), true);
            CHECKS.due("README.md says: " + words, readme.contains(words), true);
        }
        CHECKS.due("README.md says otherwise too", readme.replace(REFUSED, "").contains("changes nothing"), false);
    }

    private static void tests() throws IOException {
        String readme = Files.readString(Path.of("README.md"));
        List<String> untold = new ArrayList<>();
        try (Stream<Path> files = Files.list(TESTS)) {
            files.map(file -> file.getFileName().toString().replace(".java", ""))
                .filter(name -> !readme.contains("`" + name + "`")).forEach(untold::add);
        }
        CHECKS.due("README.md does not tell of " + untold, untold.isEmpty(), true);
        CHECKS.due("README.md tells how the tests are run", readme.contains("\n    .ci/run\n"), true);
    }

    private static List<String> between(Path file, String from, String to) throws IOException {
        List<String> found = new ArrayList<>();
        boolean isIn = false;
        for (String line : Files.readAllLines(file)) {
            isIn &= !line.strip().equals(to);
            if (isIn) {
                found.add(line.strip());
            }
            isIn |= line.strip().equals(from);
        }
        return found;
    }

    private static void exampleStands() throws IOException {
        List<String> told = between(Path.of("README.md"), "```java", "```");
        List<String> run = between(TESTS.resolve("ReadmeTest.java"), "// README.md from here", "// README.md to here");
        CHECKS.due("an example stands in README.md", told.size() > 10, true);
        CHECKS.due("README.md's example is the one below: " + told, told.equals(run), true);
    }

    private static void exampleAnswers() {
        // README.md from here
        ItchParish x = new ItchParish();
        // a text goes to the tape by twenty bytes, the highest byte of each int first, blanks behind it
        x.feed(0x6b696e64, 0x20737465, 0x70203120, 0x73706f74, 0x2033203b); // "kind step 1 spot 3 ;"
        x.feed(0x70657273, 0x6f6e2061, 0x20686f6d, 0x6520303b, 0x20202020); // "person a home 0;    "
        int people = x.district(36);       // 1: how many PEOPLE
        int thing = x.lose(0, 0, 5);       // 0: PERSON 0 lost a THING of KIND 0, of WORTH 5
        int refused = x.scratch(0, thing); // NONE
        int why = x.status();              // 9: it can't be, he can't REACH SPOT 3
        boolean learnt = x.teach(0, 3, true);
        int minute = x.scratch(0, thing);  // 0: the MINUTE in which it is FOUND
        boolean told = x.tongue(1);        // a FRACTION: 4 sixteenths
        long top = x.top();                // 1
        long bottom = x.bottom();          // 4
        x.feed(0x70657273, 0x6f6e2061, 0x20686f6d, 0x65203630, 0x3b202020); // "person a home 60;   "
        int none = x.district(17);         // NONE, and status() is 10: a FAULT
        int fault = x.fault(0);            // 4: a NUMBER that can't be
        int place = x.fault(1);            // 14: where it begins
        int stays = x.many(2);             // 1: the DISTRICT ahead with its THING
        int bytes = x.feed(0, 0, 0, 0, 0); // 20: the tape was empty
        // README.md to here
        CHECKS.due("people", people, 1);
        CHECKS.due("thing", thing, 0);
        CHECKS.due("refused", refused, ItchParish.NONE);
        CHECKS.due("why", why, 9);
        CHECKS.due("learnt", learnt, true);
        CHECKS.due("minute", minute, 0);
        CHECKS.due("told", told, true);
        CHECKS.due("top", top, 1);
        CHECKS.due("bottom", bottom, 4);
        CHECKS.due("none", none, ItchParish.NONE);
        CHECKS.due("fault", fault, 4);
        CHECKS.due("place", place, 14);
        CHECKS.due("stays", stays, 1);
        CHECKS.due("bytes", bytes, 20);
    }

    /** STATUS 10 is the one that changes more than STATUS: the tape and what fault() tells; 5 leaves both. */
    private static void textWithFault() {
        String district = "kind step 1 spot 3;person a home 7;thing a 0;";
        for (int call = 0; call < 2; call++) {
            String name = call == 0 ? "district" : "days";
            ItchParish x = Checks.with(district);
            Checks.days(x, "wait 9;stop;");
            x.live(0);
            Checks.feed(x, "wait; odds 0; 123456");
            CHECKS.refused(name + "(21) of 20", x, asked(x, call, 21), 5);
            CHECKS.due("fault(0) behind 5", x.fault(0), 0);
            CHECKS.due("fault(1) behind 5", x.fault(1), ItchParish.NONE);
            CHECKS.refused(name + "(20) with a FAULT", x, asked(x, call, 20), 10);
            CHECKS.due("fault(0) behind 10", x.fault(0), 2);
            CHECKS.due("fault(1) behind 10", x.fault(1), call == 0 ? 0 : 4);
            CHECKS.refused("the tape is empty: " + name + "(1)", x, asked(x, call, 1), 5);
            CHECKS.due("fault(0) behind 10, 5", x.fault(0), 2);
            CHECKS.fine("PEOPLE stay", x, x.many(1), 1);
            CHECKS.fine("THINGS stay", x, x.many(2), 1);
            CHECKS.fine("the MINUTE stays", x, x.many(5), 9);
            CHECKS.fine("ODDS stay", x, x.many(3), 4);
            CHECKS.fine("live() of latest stays", x, x.lived(1), 9);
            CHECKS.fine("DAYS stay", x, x.live(0), 2);
            CHECKS.fine("and are lived again", x, x.many(5), 18);
            CHECKS.due("the tape is empty", x.feed(0, 0, 0, 0, 0), 20);
        }
    }

    private static int asked(ItchParish x, int call, int n) {
        return call == 0 ? x.district(n) : x.days(n);
    }
}
