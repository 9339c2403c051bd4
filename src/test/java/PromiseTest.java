/** Each promise of the document by answers reckoned by hand: ordinary ones, edges, wrong inputs. */
public final class PromiseTest {
    private static final int NONE = ItchParish.NONE;

    // THING 0: on bo at 3, from MINUTE 10, by cy.   1: on di at 9, from 30, by di.   2: on di at 5, from 26, by nobody.
    // THING 3: on cy at 3, from 26, by bo.          4: on di at 0, from 40, by nobody.
    private static final String FOUR = "odds 8;arm 6;kind step 1 spot 3;kind step 2 spot 8 weight 3;kind step 3 spot 0;"
        + "person al home 0 reach 3 4;person bo home 10 reach 5;person cy home 14;person di home 40 reach 9 3;"
        + "thing al 0 worth 4;thing bo 1;thing cy 0 worth 2;thing di 2 worth 3;thing al 2;";

    // All at one place: THING 0 by a, c; 1 by a, b; 2 by b, c.
    private static final String THREE = "arm 59;kind step 1 spot 0;person a home 5;person b home 5;person c home 5;"
        + "thing a 0 worth 5;thing b 0 worth 3;thing c 0 worth 9;";

    private static final String SEVEN = "kind step 2 spot 0;kind step 3 spot 4;person a home 0;person b home 1;"
        + "person c home 2;person d home 3;person e home 4;person f home 5;person g home 6;";

    private static final Checks CHECKS = new Checks("PromiseTest");

    public static void main(String[] args) {
        newObject();
        statusAndFraction();
        trays();
        pours();
        feeds();
        districts();
        districtFaults();
        daysTexts();
        daysFaults();
        faultTold();
        manyAndKind();
        personAndThing();
        farAndHomes();
        losing();
        passing();
        scratching();
        teaching();
        movingAndComing();
        rewritingAndRules();
        soonest();
        rounds();
        needsAndRings();
        endings();
        whoseItIs();
        laws();
        handsAndWays();
        signs();
        walks();
        shares();
        games();
        tongues();
        livesPlain();
        livesMissed();
        livesCut();
        livesDraw();
        means();
        marks();
        CHECKS.end();
    }

    // Promise 1
    private static void newObject() {
        ItchParish x = new ItchParish();
        CHECKS.due("new status", x.status(), 0);
        CHECKS.due("new top", x.top(), 0);
        CHECKS.due("new bottom", x.bottom(), 1);
        CHECKS.due("new fault 0", x.fault(0), NONE);
        CHECKS.due("new fault 1", x.fault(1), NONE);
        int[] many = {0, 0, 0, 4, 5, 0, 0, 0, 0};
        for (int what = 0; what < many.length; what++) {
            CHECKS.fine("new many " + what, x, x.many(what), many[what]);
        }
        for (int tray = 0; tray < 4; tray++) {
            CHECKS.refused("new tray " + tray, x, x.read(tray, 0), 3);
        }
        CHECKS.refused("new days", x, x.live(0), 8);
        CHECKS.refused("new marks", x, x.back(), 8);
        CHECKS.refused("new tape", x, x.district(1), 5);
        CHECKS.due("NONE", ItchParish.NONE, -1);
    }

    // Promises 2, 3, 4
    private static void statusAndFraction() {
        ItchParish x = Checks.with(FOUR);
        x.kind(9, 0);
        CHECKS.due("status stays", x.status(), 2);
        x.top();
        x.bottom();
        x.fault(0);
        x.fault(7);
        x.feed(0, 0, 0, 0, 0);
        x.status();
        CHECKS.due("status of those without", x.status(), 2);
        CHECKS.fraction("tongue 1", x, x.tongue(1), 1, 2);
        CHECKS.refused("tongue 13", x, x.tongue(13), 5);
        CHECKS.due("top stays", x.top(), 1);
        CHECKS.due("bottom stays", x.bottom(), 2);
        CHECKS.fraction("share of nothing more", x, x.share(40, 2, 1), 0, 1);
    }

    // Promises 5, 6, 7
    private static void trays() {
        ItchParish x = new ItchParish();
        CHECKS.refused("tray -1", x, x.tray(-1, 0, 1), 1);
        CHECKS.refused("tray 4", x, x.tray(4, 0, 1), 1);
        CHECKS.refused("sort -1", x, x.tray(0, -1, 1), 1);
        CHECKS.refused("sort 4", x, x.tray(0, 4, 61), 1);
        CHECKS.refused("many 61", x, x.tray(0, 0, 61), 5);
        CHECKS.refused("many -1", x, x.tray(0, 0, -1), 6);
        CHECKS.refused("still missing", x, x.read(0, 0), 3);
        CHECKS.fine("tray of 60", x, x.tray(0, 3, 60));
        CHECKS.fine("last place", x, x.read(0, 59), 0);
        CHECKS.refused("place 60", x, x.read(0, 60), 4);
        CHECKS.refused("place -1", x, x.read(0, -1), 4);
        CHECKS.refused("read tray 4", x, x.read(4, 0), 1);
        CHECKS.refused("write tray -1", x, x.write(-1, 0, 1), 1);
        CHECKS.refused("write missing", x, x.write(1, 0, 1), 3);
        CHECKS.refused("write place 60", x, x.write(0, 60, 1), 4);
        CHECKS.refused("write place -1", x, x.write(0, -1, 1), 4);
        CHECKS.fine("write long", x, x.write(0, 59, Long.MIN_VALUE));
        CHECKS.fine("read long", x, x.read(0, 59), Long.MIN_VALUE);
        CHECKS.fine("write -1", x, x.write(0, 0, -1));
        CHECKS.fine("read -1", x, x.read(0, 0), -1);
        CHECKS.fine("made anew", x, x.tray(0, 0, 2));
        CHECKS.fine("all 0 anew", x, x.read(0, 0), 0);
        CHECKS.refused("shorter now", x, x.read(0, 2), 4);
        long[] cut = {128, 32768, 2147483648L, 255};
        long[] left = {-128, -32768, -2147483648L, 255};
        for (int sort = 0; sort < 4; sort++) {
            x.tray(sort, sort, 1);
            CHECKS.fine("write sort " + sort, x, x.write(sort, 0, cut[sort]));
            CHECKS.fine("read sort " + sort, x, x.read(sort, 0), left[sort]);
        }
        CHECKS.fine("tray of none", x, x.tray(2, 2, 0));
        CHECKS.refused("no place in none", x, x.write(2, 0, 0), 4);
    }

    // Promise 8
    private static void pours() {
        ItchParish x = new ItchParish();
        x.tray(0, 1, 5);
        x.tray(1, 1, 3);
        x.tray(2, 2, 5);
        for (int k = 0; k < 5; k++) {
            x.write(0, k, k + 1);
        }
        CHECKS.refused("pour from 4", x, x.pour(4, 0, 0, 0, 1), 1);
        CHECKS.refused("pour to -1", x, x.pour(3, 0, -1, 0, -1), 1);
        CHECKS.refused("pour from missing", x, x.pour(3, 0, 0, 0, -1), 3);
        CHECKS.refused("pour to missing", x, x.pour(0, 0, 3, 0, -1), 3);
        CHECKS.refused("pour unlike", x, x.pour(0, 0, 2, 0, -1), 11);
        CHECKS.refused("pour below 0", x, x.pour(0, -1, 1, 0, -1), 6);
        CHECKS.refused("pour from -1", x, x.pour(0, -1, 1, 0, 1), 4);
        CHECKS.refused("pour to -1", x, x.pour(0, 0, 1, -1, 1), 4);
        CHECKS.refused("pour too many", x, x.pour(0, 3, 1, 0, 3), 4);
        CHECKS.refused("pour too many there", x, x.pour(0, 0, 1, 1, 3), 4);
        CHECKS.refused("pour far too many", x, x.pour(0, 2, 1, 2, Integer.MAX_VALUE), 4);
        CHECKS.refused("pour from far", x, x.pour(0, Integer.MAX_VALUE, 1, 0, 1), 4);
        CHECKS.fine("pour", x, x.pour(0, 2, 1, 0, 3));
        CHECKS.fine("poured", x, x.read(1, 2), 5);
        CHECKS.fine("pour behind itself", x, x.pour(0, 0, 0, 1, 4));
        long[] shifted = {1, 1, 2, 3, 4};
        for (int k = 0; k < 5; k++) {
            CHECKS.fine("shifted " + k, x, x.read(0, k), shifted[k]);
        }
        CHECKS.fine("pour ahead of itself", x, x.pour(0, 1, 0, 0, 4));
        CHECKS.fine("shifted back", x, x.read(0, 3), 4);
        CHECKS.fine("pour none", x, x.pour(0, 5, 1, 3, 0));
        CHECKS.refused("pour none from too far", x, x.pour(0, 6, 1, 0, 0), 4);
    }

    // Promise 9
    private static void feeds() {
        ItchParish x = new ItchParish();
        for (int k = 1; k <= 45; k++) {
            CHECKS.due("feed " + k, x.feed(0x6f646473, 0x20313b20, 0x20202020, 0x20202020, 0x20202020), 20 * k);
        }
        x.kind(0, 0);
        CHECKS.due("feed 901", x.feed(0, 0, 0, 0, 0), NONE);
        CHECKS.due("feed has no STATUS", x.status(), 2);
        CHECKS.fine("highest byte first", x, x.district(7), 0);
        CHECKS.fine("odds 1", x, x.many(3), 1);
        CHECKS.due("feed anew", x.feed(0, 0, 0, 0, 0), 20);
    }

    // Promise 10
    private static void districts() {
        ItchParish x = new ItchParish();
        CHECKS.fine("four", x, Checks.district(x, FOUR), 4);
        CHECKS.refused("tape is empty", x, x.district(1), 5);
        CHECKS.refused("-1", x, x.district(-1), 5);
        Checks.feed(x, "odds 1;");
        CHECKS.refused("more than the tape has", x, x.district(21), 5);
        CHECKS.due("the tape is kept for 5", x.feed(0, 0, 0, 0, 0), 40);
        CHECKS.refused("fault", x, x.district(40), 10);
        CHECKS.fine("the old one stays", x, x.many(1), 4);
        CHECKS.due("the tape is empty for 10", x.feed(0, 0, 0, 0, 0), 20);
        CHECKS.fine("nobody", x, x.district(0), 0);
        CHECKS.fine("odds anew", x, x.many(3), 4);
        CHECKS.fine("arm anew", x, x.many(4), 5);
        CHECKS.fine("no kinds", x, x.many(0), 0);
        CHECKS.fine("no blanks but where words meet", x,
            Checks.district(x, "odds16;arm59;kind step9spot9weight9;person a home59reach0 1 2 3 4 5 6 7 8 9;thing a0worth9;"), 1);
        CHECKS.fine("odds 16", x, x.many(3), 16);
        CHECKS.fine("arm 59", x, x.many(4), 59);
        CHECKS.fine("reach all", x, x.person(0, 1), 1023);
        CHECKS.fine("worth 9", x, x.thing(0, 2), 9);
        CHECKS.fine("blanks 10, 32", x, Checks.district(x, "\n odds\n 0 \n;\n\narm 0000 ;  person anybody home 3 reach;"), 1);
        CHECKS.fine("odds 0", x, x.many(3), 0);
        CHECKS.fine("arm 0", x, x.many(4), 0);
        CHECKS.fine("pass first", x, x.pass(7), 0);
        CHECKS.fine("days first", x, Checks.days(x, "any;"), 1);
        CHECKS.fine("a new one", x, Checks.district(x, SEVEN), 7);
        CHECKS.fine("it is MINUTE 0", x, x.many(5), 0);
        CHECKS.refused("there are no DAYS", x, x.live(0), 8);
        CHECKS.fine("pass", x, x.pass(9), 0);
        CHECKS.refused("a fault", x, Checks.district(x, "odds 17;"), 10);
        CHECKS.fine("the MINUTE stays", x, x.many(5), 9);
        StringBuilder longest = new StringBuilder(FOUR);
        while (longest.length() < 899) {
            longest.append(' ');
        }
        longest.append('\n');
        CHECKS.fine("900 bytes", x, Checks.district(x, longest.toString()), 4);
    }

    private static void districtFault(String text, int kind, int place) {
        ItchParish x = new ItchParish();
        CHECKS.refused("district " + text, x, Checks.district(x, text), 10);
        CHECKS.due("district " + text + " fault 0", x.fault(0), kind);
        CHECKS.due("district " + text + " fault 1", x.fault(1), place);
    }

    // Promises 10, 12
    private static void districtFaults() {
        districtFault("odds\t1;", 1, 4);
        districtFault("Odds 1;", 1, 0);
        districtFault("odds 1;\u00ff", 1, 7);
        districtFault("odds \u0000;", 1, 5);
        districtFault("odds -1;", 1, 5);
        districtFault("odds 00001;", 1, 5);
        districtFault("12345", 1, 0);
        districtFault("odds 12345678901234567890;", 1, 5);
        districtFault("1234", 2, 0);
        districtFault(";", 2, 0);
        districtFault("odd 1;", 2, 0);
        districtFault("oddsodds 1;", 2, 0);
        districtFault("oddsoddsodds 1;", 2, 0);
        districtFault("stop;", 2, 0);
        districtFault("odds", 2, 4);
        districtFault("odds  ", 2, 6);
        districtFault("odds 1", 2, 6);
        districtFault("odds 1 2;", 2, 7);
        districtFault("odds <;", 2, 5);
        districtFault("odds 17;", 4, 5);
        districtFault("odds 1;odds", 5, 7);
        districtFault("arm 60;", 4, 4);
        districtFault("arm 3;odds 2;arm 60;", 5, 13);
        districtFault("kind spot 1;", 2, 5);
        districtFault("kind step 0 spot 1;", 4, 10);
        districtFault("kind step 10 spot 1;", 4, 10);
        districtFault("kind step 1 weight 1;", 2, 12);
        districtFault("kind step 1 spot 10;", 4, 17);
        districtFault("kind step 1 spot 1 weight;", 2, 25);
        districtFault("kind step 1 spot 1 weight 0;", 4, 26);
        districtFault("kind step 1 spot 1 weight 10;", 4, 26);
        districtFault("kind step 1 spot 1 weight 1 weight 1;", 2, 28);
        districtFault("person 1 home 1;", 2, 7);
        districtFault("person abcdefghi home 1;", 2, 7);
        String[] noNames = {"odds", "arm", "kind", "step", "spot", "weight", "person", "home", "reach", "thing", "worth",
            "lose", "wait", "scratch", "any", "when", "found", "up", "minute", "loop", "end", "stop"};
        for (String word : noNames) {
            districtFault("person " + word + " home 1;", 2, 7);
        }
        districtFault("person a at 1;", 2, 9);
        districtFault("person a home 60;", 4, 14);
        districtFault("person a home 1;person a home", 3, 23);
        districtFault("person a home 1 reach 10;", 4, 22);
        districtFault("person a home 1 reach 0 3 0;", 5, 26);
        districtFault("person a home 1 reach 0 1 2 3 4 5 6 7 8 9 10;", 4, 42);
        districtFault("person a home 1 reach 0 1 2 3 4 5 6 7 8 9 9;", 5, 42);
        districtFault("person a home 1 reach a;", 2, 22);
        districtFault("thing a 0;", 3, 6);
        districtFault("thing thing 0;", 2, 6);
        districtFault("person a home 1;thing a 0;", 4, 24);
        districtFault("person a home 1;thing a 0;kind step 1 spot 1;", 4, 24);
        districtFault("kind step 1 spot 1;person a home 1;thing a 1;", 4, 43);
        districtFault("kind step 1 spot 1;person a home 1;thing a 0 worth 0;", 4, 51);
        districtFault("kind step 1 spot 1;person a home 1;thing a 0 worth 10;", 4, 51);
        districtFault("kind step 1 spot 1;person a home 1;thing ab 0", 3, 41);
        String kind = "kind step 1 spot 1;";
        districtFault(kind.repeat(5) + "kind", 6, 95);
        districtFault(SEVEN + "person", 6, SEVEN.length());
        districtFault(kind + "person a home 1;" + "thing a 0;".repeat(8) + "thing 12345", 6, 115);
        districtFault(";".repeat(900), 2, 0);
        districtFault(" ".repeat(880) + "odds 1 ; arm 2 ; 9 9", 2, 897);
        ItchParish x = new ItchParish();
        CHECKS.fine("five kinds", x, Checks.district(x, kind.repeat(5)), 0);
        CHECKS.fine("eight things", x, Checks.district(x, kind + "person a home 1;" + "thing a 0;".repeat(8)), 1);
        CHECKS.fine("names of eight", x, Checks.district(x, "person abcdefgh home 0;person abcdefg home 0;person h home 0;"), 3);
    }

    // Promise 11
    private static void daysTexts() {
        ItchParish x = Checks.with(FOUR);
        CHECKS.fine("no steps", x, x.days(0), 0);
        CHECKS.fine("they are there", x, x.live(0), 0);
        CHECKS.fine("end is none", x, Checks.days(x, "when up 7;loop 99;when minute=9999;stop;end;end;end;wait 99;"), 5);
        CHECKS.fine("thirty", x, Checks.days(x, "any;".repeat(29) + "loop 1;end;"), 30);
        CHECKS.fine("all kinds", x, Checks.days(x, "wait 1;lose di 2;scratch al 7;any;when found 0;end;when minute<0;end;stop;"), 7);
        CHECKS.refused("-1", x, x.days(-1), 5);
        CHECKS.refused("no tape", x, x.days(1), 5);
        Checks.feed(x, "any;" + " ".repeat(300));
        CHECKS.refused("301 bytes", x, x.days(301), 5);
        CHECKS.fine("300 bytes", x, x.days(300), 1);
        CHECKS.refused("the tape is empty", x, x.days(20), 5);
        CHECKS.refused("a fault", x, Checks.days(x, "any;go;"), 10);
        CHECKS.fine("the old ones stay", x, x.live(0), 1);
        CHECKS.due("the tape is empty for 10", x.feed(0, 0, 0, 0, 0), 20);
    }

    private static void daysFault(String text, int kind, int place) {
        ItchParish x = Checks.with(FOUR);
        CHECKS.refused("days " + text, x, Checks.days(x, text), 10);
        CHECKS.due("days " + text + " fault 0", x.fault(0), kind);
        CHECKS.due("days " + text + " fault 1", x.fault(1), place);
        CHECKS.refused("days " + text + " live", x, x.live(0), 8);
    }

    // Promises 11, 12
    private static void daysFaults() {
        daysFault("any,", 1, 3);
        daysFault("wait 10000;", 1, 5);
        daysFault("wait 0;", 4, 5);
        daysFault("wait 100;", 4, 5);
        daysFault("wait ;", 2, 5);
        daysFault("odds 1;", 2, 0);
        daysFault("any", 2, 3);
        daysFault("any;end;", 2, 4);
        daysFault("loop 1;end;end", 2, 11);
        daysFault("loop 1;end", 2, 10);
        daysFault("loop 1;any; ", 2, 12);
        daysFault("loop 100;", 4, 5);
        daysFault("loop 0;", 4, 5);
        daysFault("lose wait 0;", 2, 5);
        daysFault("lose alexandra 0;", 2, 5);
        daysFault("lose 0 0;", 2, 5);
        daysFault("lose ala 0;", 3, 5);
        daysFault("lose al 3;", 4, 8);
        daysFault("scratch a 0;", 3, 8);
        daysFault("scratch al 8;", 4, 11);
        daysFault("when;", 2, 4);
        daysFault("when found 8;end;", 4, 11);
        daysFault("when up 8;end;", 4, 8);
        daysFault("when minute 8;end;", 2, 12);
        daysFault("when minute<;end;", 2, 12);
        daysFault("when minute<=9;end;", 2, 12);
        daysFault("when up<1;end;", 2, 7);
        daysFault("any;".repeat(30) + "any", 6, 120);
        daysFault("any;".repeat(30) + "go", 2, 120);
        daysFault("any;".repeat(30) + "end", 2, 120);
        daysFault("any;".repeat(27) + "loop 1;loop 1;loop 1;when", 6, 129);
        daysFault("any;".repeat(26) + "loop 1;loop 1;loop 1;when", 7, 125);
        daysFault("loop 1;when up 1;loop 1;loop", 7, 24);
        ItchParish x = Checks.with(FOUR);
        x.come(0);
        for (String name : new String[] {"a", "b", "z", "ed", "a".repeat(8)}) {
            CHECKS.refused("nobody without a name is named " + name, x, Checks.days(x, "lose " + name + " 0;"), 10);
            CHECKS.due("fault 0", x.fault(0), 3);
        }
    }

    // Promise 12
    private static void faultTold() {
        ItchParish x = new ItchParish();
        x.district(1);
        CHECKS.due("ahead of any", x.fault(0), NONE);
        Checks.district(x, "go;");
        CHECKS.due("fault", x.fault(0), 2);
        CHECKS.due("place", x.fault(1), 0);
        CHECKS.due("what 2", x.fault(2), NONE);
        CHECKS.due("what -1", x.fault(-1), NONE);
        x.district(1);
        x.days(301);
        CHECKS.due("5 tells none anew", x.fault(0), 2);
        x.days(0);
        CHECKS.due("without one", x.fault(0), 0);
        CHECKS.due("no place", x.fault(1), NONE);
        CHECKS.due("what 2 without one", x.fault(2), NONE);
    }

    // Promises 13, 14
    private static void manyAndKind() {
        ItchParish x = Checks.with(FOUR);
        int[] many = {3, 4, 5, 8, 6, 0, 0, 0, 0};
        for (int what = 0; what < many.length; what++) {
            CHECKS.fine("many " + what, x, x.many(what), many[what]);
        }
        CHECKS.refused("many -1", x, x.many(-1), 5);
        CHECKS.refused("many 9", x, x.many(9), 5);
        x.pass(30);
        CHECKS.fine("the MINUTE", x, x.many(5), 30);
        CHECKS.fine("up", x, x.many(6), 15);
        x.scratch(2, 0);
        CHECKS.fine("up without the scratched", x, x.many(6), 14);
        CHECKS.fine("scratched", x, x.many(7), 1);
        CHECKS.fine("found not yet", x, x.many(8), 0);
        x.pass(9);
        CHECKS.fine("found not yet at 39", x, x.many(8), 0);
        x.pass(1);
        CHECKS.fine("found at 40", x, x.many(8), 1);
        int[][] kinds = {{1, 3, 1}, {2, 8, 3}, {3, 0, 1}};
        for (int kind = 0; kind < 3; kind++) {
            for (int what = 0; what < 3; what++) {
                CHECKS.fine("kind " + kind + " " + what, x, x.kind(kind, what), kinds[kind][what]);
            }
        }
        CHECKS.refused("kind 3", x, x.kind(3, 3), 2);
        CHECKS.refused("kind -1", x, x.kind(-1, 0), 2);
        CHECKS.refused("kind what 3", x, x.kind(0, 3), 5);
        CHECKS.refused("kind what -1", x, x.kind(0, -1), 5);
    }

    // Promises 15, 16
    private static void personAndThing() {
        ItchParish x = Checks.with(FOUR);
        int[][] people = {{0, 24, 0, 17}, {10, 32, 0, 2}, {14, 0, 0, 4}, {40, 520, 0, 8}};
        for (int person = 0; person < 4; person++) {
            for (int what = 0; what < 4; what++) {
                CHECKS.fine("person " + person + " " + what, x, x.person(person, what), people[person][what]);
            }
        }
        CHECKS.refused("person 4", x, x.person(4, 4), 2);
        CHECKS.refused("person -1", x, x.person(-1, 0), 2);
        CHECKS.refused("person what 4", x, x.person(0, 4), 5);
        CHECKS.refused("person what -1", x, x.person(0, -1), 5);
        int[][] things = {{0, 0, 4, 0, 1, 3, 10, NONE, NONE, 4}, {1, 1, 1, 0, 3, 9, 30, NONE, NONE, 8},
            {2, 0, 2, 0, 3, 5, 26, NONE, NONE, 0}, {3, 2, 3, 0, 2, 3, 26, NONE, NONE, 2}, {0, 2, 1, 0, 3, 0, 40, NONE, NONE, 0}};
        for (int thing = 0; thing < 5; thing++) {
            for (int what = 0; what < 10; what++) {
                if (what == 7 || what == 8) {
                    CHECKS.refused("thing " + thing + " " + what, x, x.thing(thing, what), 8);
                } else {
                    CHECKS.fine("thing " + thing + " " + what, x, x.thing(thing, what), things[thing][what]);
                }
            }
        }
        CHECKS.refused("thing 5", x, x.thing(5, 10), 2);
        CHECKS.refused("thing -1", x, x.thing(-1, 0), 2);
        CHECKS.refused("thing what 10", x, x.thing(0, 10), 5);
        CHECKS.refused("thing what -1", x, x.thing(0, -1), 5);
        x.pass(31);
        CHECKS.fine("up on di", x, x.person(3, 2), 6);
        CHECKS.fine("up on al", x, x.person(0, 2), 0);
        x.scratch(3, 1);
        CHECKS.fine("scratched at", x, x.thing(1, 7), 31);
        CHECKS.fine("found at", x, x.thing(1, 8), 61);
        CHECKS.fine("up on di no more", x, x.person(3, 2), 4);
        CHECKS.fine("still bo's", x, x.person(1, 3), 2);
        x.move(1, 39);
        CHECKS.fine("found at as reckoned then", x, x.thing(1, 8), 61);
        CHECKS.fine("comes up by who there is now", x, x.thing(1, 6), 1);
        CHECKS.fine("bo is near di now", x, x.thing(1, 9), 10);
    }

    // Promises 17, 18
    private static void farAndHomes() {
        ItchParish x = Checks.with(FOUR);
        CHECKS.fine("far 0 3", x, x.far(0, 3), 40);
        CHECKS.fine("far 3 1", x, x.far(3, 1), 30);
        CHECKS.fine("far 2 2", x, x.far(2, 2), 0);
        CHECKS.refused("far 4", x, x.far(4, 0), 2);
        CHECKS.refused("far -1", x, x.far(0, -1), 2);
        CHECKS.refused("homes to 4", x, x.copyHomes(4), 1);
        CHECKS.refused("homes to missing", x, x.copyHomes(0), 3);
        x.tray(0, 0, 3);
        CHECKS.refused("homes to three", x, x.copyHomes(0), 4);
        CHECKS.fine("nothing came", x, x.read(0, 2), 0);
        x.tray(0, 0, 5);
        x.write(0, 4, 77);
        CHECKS.fine("homes", x, x.copyHomes(0), 4);
        int[] homes = {0, 10, 14, 40, 77};
        for (int k = 0; k < 5; k++) {
            CHECKS.fine("home " + k, x, x.read(0, k), homes[k]);
        }
    }

    // Promise 19
    private static void losing() {
        ItchParish x = Checks.with(FOUR);
        x.pass(3);
        CHECKS.refused("lose person 4", x, x.lose(4, 0, 0), 2);
        CHECKS.refused("lose kind 3", x, x.lose(0, 3, 0), 2);
        CHECKS.refused("lose kind -1", x, x.lose(0, -1, 0), 2);
        CHECKS.refused("lose worth 0", x, x.lose(0, 0, 0), 5);
        CHECKS.refused("lose worth 10", x, x.lose(0, 0, 10), 5);
        CHECKS.fine("lose", x, x.lose(2, 1, 9), 5);
        CHECKS.fine("lost now", x, x.thing(5, 3), 3);
        CHECKS.fine("comes up", x, x.thing(5, 6), 17);
        CHECKS.fine("worth", x, x.thing(5, 2), 9);
        CHECKS.fine("lose", x, x.lose(0, 0, 1), 6);
        CHECKS.fine("lose", x, x.lose(0, 0, 1), 7);
        CHECKS.refused("a ninth", x, x.lose(0, 0, 1), 7);
        CHECKS.refused("a ninth of no worth", x, x.lose(0, 0, 10), 5);
        CHECKS.fine("eight", x, x.many(2), 8);
    }

    // Promise 20
    private static void passing() {
        ItchParish x = Checks.with(FOUR);
        CHECKS.refused("pass 0", x, x.pass(0), 5);
        CHECKS.refused("pass 1000", x, x.pass(1000), 5);
        CHECKS.fine("pass 9", x, x.pass(9), 0);
        CHECKS.fine("pass 1", x, x.pass(1), 1);
        CHECKS.fine("pass 30", x, x.pass(30), 31);
        for (int k = 0; k < 9; k++) {
            x.pass(999);
        }
        CHECKS.fine("pass to 9999", x, x.pass(968), 31);
        CHECKS.fine("9999", x, x.many(5), 9999);
        CHECKS.refused("above", x, x.pass(1), 7);
        CHECKS.refused("above by no number", x, x.pass(1000), 5);
        CHECKS.fine("9999 still", x, x.many(5), 9999);
    }

    // Promise 21
    private static void scratching() {
        ItchParish x = Checks.with(FOUR);
        CHECKS.refused("not up", x, x.scratch(2, 0), 9);
        x.pass(26);
        CHECKS.refused("person 4", x, x.scratch(4, 0), 2);
        CHECKS.refused("thing 5", x, x.scratch(0, 5), 2);
        CHECKS.refused("thing -1", x, x.scratch(0, -1), 2);
        CHECKS.refused("too far", x, x.scratch(0, 0), 9);
        CHECKS.refused("the bearer can't reach", x, x.scratch(1, 0), 9);
        CHECKS.fine("by who is near", x, x.scratch(2, 0), 36);
        CHECKS.refused("scratched already", x, x.scratch(2, 0), 9);
        x.pass(4);
        CHECKS.fine("by the bearer", x, x.scratch(3, 1), 60);
        ItchParish y = Checks.with("arm 3;kind step 2 spot 0;person a home 5 reach 0;person b home 8;thing a 0;");
        CHECKS.refused("on himself, too far", y, y.scratch(1, 7), 2);
        CHECKS.fine("on himself", y, y.scratch(1, 0), 0);
        CHECKS.fine("found at once", y, y.many(8), 1);
    }

    // Promise 22
    private static void teaching() {
        ItchParish x = Checks.with(FOUR);
        CHECKS.refused("person 4", x, x.teach(4, 0, true), 2);
        CHECKS.refused("spot 10", x, x.teach(0, 10, true), 2);
        CHECKS.refused("spot -1", x, x.teach(0, -1, false), 2);
        CHECKS.refused("it is so", x, x.teach(0, 3, true), 9);
        CHECKS.refused("it is not so", x, x.teach(0, 0, false), 9);
        CHECKS.fine("teach 0", x, x.teach(0, 0, true));
        CHECKS.fine("reach 0", x, x.person(0, 1), 25);
        CHECKS.fine("unteach 3", x, x.teach(0, 3, false));
        CHECKS.fine("reach no 3", x, x.person(0, 1), 17);
        CHECKS.fine("teach 9", x, x.teach(0, 9, true));
        CHECKS.fine("reach 9", x, x.person(0, 1), 529);
    }

    // Promises 23, 24
    private static void movingAndComing() {
        ItchParish x = Checks.with(FOUR);
        CHECKS.refused("move 4", x, x.move(4, 60), 2);
        CHECKS.refused("move to 60", x, x.move(0, 60), 5);
        CHECKS.refused("move to -1", x, x.move(0, -1), 5);
        CHECKS.fine("move", x, x.move(3, 59), 40);
        CHECKS.fine("moved", x, x.person(3, 0), 59);
        CHECKS.fine("move to where he is", x, x.move(3, 59), 59);
        CHECKS.refused("come to 60", x, x.come(60), 5);
        CHECKS.refused("come to -1", x, x.come(-1), 5);
        CHECKS.fine("come", x, x.come(20), 4);
        CHECKS.fine("reaches nothing", x, x.person(4, 1), 0);
        CHECKS.fine("lives there", x, x.person(4, 0), 20);
        CHECKS.fine("bearers are others now", x, x.thing(3, 4), 1);
        CHECKS.fine("spots are as they were", x, x.thing(3, 5), 3);
        CHECKS.fine("come", x, x.come(0), 5);
        CHECKS.fine("come", x, x.come(59), 6);
        CHECKS.refused("an eighth", x, x.come(0), 7);
        CHECKS.refused("an eighth to nowhere", x, x.come(60), 5);
        CHECKS.fine("seven", x, x.many(1), 7);
    }

    // Promises 25, 26
    private static void rewritingAndRules() {
        ItchParish x = Checks.with(FOUR);
        CHECKS.refused("kind 3", x, x.rewrite(3, 3, 0), 2);
        CHECKS.refused("what 3", x, x.rewrite(0, 3, 1), 5);
        CHECKS.refused("what -1", x, x.rewrite(0, -1, 1), 5);
        int[] least = {1, 0, 1};
        int[] was = {2, 8, 3};
        for (int what = 0; what < 3; what++) {
            CHECKS.refused("less", x, x.rewrite(1, what, least[what] - 1), 5);
            CHECKS.refused("more", x, x.rewrite(1, what, 10), 5);
            CHECKS.fine("most", x, x.rewrite(1, what, 9), was[what]);
            CHECKS.fine("least", x, x.rewrite(1, what, least[what]), 9);
            CHECKS.fine("rewritten", x, x.kind(1, what), least[what]);
        }
        CHECKS.fine("bearer", x, x.thing(1, 4), 2);
        CHECKS.fine("spot", x, x.thing(1, 5), 1);
        CHECKS.refused("rule 2", x, x.rule(2, 0), 5);
        CHECKS.refused("rule 5", x, x.rule(5, 0), 5);
        CHECKS.refused("odds 17", x, x.rule(3, 17), 5);
        CHECKS.refused("odds -1", x, x.rule(3, -1), 5);
        CHECKS.refused("arm 60", x, x.rule(4, 60), 5);
        CHECKS.refused("arm -1", x, x.rule(4, -1), 5);
        CHECKS.fine("odds stay", x, x.many(3), 8);
        CHECKS.fine("odds 16", x, x.rule(3, 16));
        CHECKS.fine("arm 59", x, x.rule(4, 59));
        CHECKS.fine("odds", x, x.many(3), 16);
        CHECKS.fine("arm", x, x.many(4), 59);
        CHECKS.fine("who could now", x, x.thing(0, 9), 13);
        CHECKS.fine("odds 0", x, x.rule(3, 0));
        CHECKS.fine("arm 0", x, x.rule(4, 0));
        CHECKS.fine("who could now", x, x.thing(0, 9), 0);
    }

    // Promise 27
    private static void soonest() {
        ItchParish x = Checks.with(FOUR);
        CHECKS.refused("thing 5", x, x.soonest(5), 2);
        CHECKS.refused("thing -1", x, x.soonest(-1), 2);
        CHECKS.fine("thing 0", x, x.soonest(0), 20);
        CHECKS.fine("thing 1", x, x.soonest(1), 60);
        CHECKS.refused("thing 2", x, x.soonest(2), 8);
        x.pass(25);
        CHECKS.fine("late", x, x.soonest(0), 35);
        x.scratch(2, 0);
        x.pass(20);
        x.rule(4, 0);
        CHECKS.fine("scratched already", x, x.soonest(0), 35);
        CHECKS.refused("nobody is near", x, x.soonest(3), 8);
    }

    // Promises 28, 29
    private static void rounds() {
        ItchParish x = Checks.with(THREE);
        CHECKS.fine("three", x, x.round(), 3);
        for (int thing = 0; thing < 3; thing++) {
            CHECKS.fine("works " + thing, x, x.works(thing), thing);
        }
        CHECKS.refused("works 3", x, x.works(3), 2);
        CHECKS.refused("works -1", x, x.works(-1), 2);
        x.scratch(0, 0);
        CHECKS.fine("two", x, x.round(), 2);
        CHECKS.refused("scratched", x, x.works(0), 8);
        CHECKS.fine("works 1", x, x.works(1), 0);
        CHECKS.fine("works 2", x, x.works(2), 1);
        String two = "arm 0;kind step 1 spot 0;kind step 1 spot 1;person a home 0;person b home 0 reach 0;";
        ItchParish y = Checks.with(two + "thing a 0;thing a 1;");
        CHECKS.fine("most before least", y, y.round(), 2);
        CHECKS.fine("b leaves a free", y, y.works(0), 1);
        CHECKS.fine("a", y, y.works(1), 0);
        ItchParish z = Checks.with(two + "thing a 1;thing a 1;thing b 0;");
        CHECKS.fine("one of two alike", z, z.round(), 2);
        CHECKS.fine("the first", z, z.works(0), 0);
        CHECKS.refused("not the second", z, z.works(1), 8);
        CHECKS.fine("by b", z, z.works(2), 1);
        ItchParish none = Checks.with(FOUR);
        CHECKS.fine("none is up", none, none.round(), 0);
        CHECKS.refused("none is up", none, none.works(0), 8);
        CHECKS.fine("the state stays", y, y.many(7), 0);
    }

    // Promises 30, 31
    private static void needsAndRings() {
        ItchParish x = Checks.with(FOUR);
        int[] needs = {10, 8, 8, 4};
        for (int person = 0; person < 4; person++) {
            CHECKS.fine("needs " + person, x, x.needs(person), needs[person]);
        }
        CHECKS.refused("needs 4", x, x.needs(4), 2);
        CHECKS.refused("needs -1", x, x.needs(-1), 2);
        CHECKS.fine("ring", x, x.ring(), 2);
        x.pass(26);
        x.scratch(1, 3);
        CHECKS.fine("needs no more", x, x.needs(3), 0);
        CHECKS.refused("no ring", x, x.ring(), 8);
        ItchParish y = Checks.with(THREE);
        CHECKS.fine("ring of three", y, y.ring(), 3);
        ItchParish z = Checks.with(SEVEN.substring(0, 19) + SEVEN.substring(38)
            + "thing a 0;thing b 0;thing c 0;thing d 0;thing e 0;thing f 0;thing g 0;");
        CHECKS.fine("ring of seven", z, z.ring(), 7);
        z.rewrite(0, 0, 7);
        CHECKS.fine("who needs himself", z, z.ring(), 1);
        CHECKS.fine("himself", z, z.needs(6), 64);
    }

    // Promises 32, 33
    private static void endings() {
        ItchParish x = Checks.with(FOUR);
        CHECKS.fine("one", x, x.ending(), 1);
        CHECKS.fine("thing 2, not 3", x, x.endingSet(), 4);
        x.pass(26);
        x.scratch(1, 3);
        CHECKS.fine("no ring", x, x.ending(), 0);
        CHECKS.fine("no ring", x, x.endingSet(), 0);
        ItchParish y = Checks.with(THREE + "thing a 0;thing b 0;thing b 0;");
        CHECKS.fine("c's alone", y, y.ending(), 1);
        CHECKS.fine("c's alone", y, y.endingSet(), 4);
        y.scratch(2, 2);
        CHECKS.fine("none is left", y, y.ending(), 0);
        ItchParish z = Checks.with("kind step 1 spot 0;person a home 0;thing a 0;thing a 0;thing a 0;thing a 0;"
            + "thing a 0;thing a 0;thing a 0;thing a 0;");
        CHECKS.fine("all eight", z, z.ending(), 8);
        CHECKS.fine("all eight", z, z.endingSet(), 255);
        ItchParish nobody = new ItchParish();
        CHECKS.fine("nobody", nobody, nobody.endingSet(), 0);
    }

    // Promises 34, 35
    private static void whoseItIs() {
        ItchParish x = Checks.with("kind step 2 spot 0 weight 2;kind step 1 spot 9 weight 3;kind step 2 spot 0 weight 4;"
            + "person a home 0;person b home 9;");
        CHECKS.fine("couples", x, x.couples(0, 0), 3);
        CHECKS.fine("no couples", x, x.couples(0, 1), 0);
        CHECKS.fine("couples on b", x, x.couples(1, 1), 2);
        CHECKS.refused("person 2", x, x.couples(2, 0), 2);
        CHECKS.refused("person -1", x, x.couples(-1, 0), 2);
        CHECKS.refused("spot 10", x, x.couples(0, 10), 2);
        CHECKS.refused("spot -1", x, x.couples(0, -1), 2);
        CHECKS.fraction("a's", x, x.whose(0, 0, 0), 2, 3);
        CHECKS.fraction("b's", x, x.whose(0, 0, 1), 1, 3);
        CHECKS.fraction("not a's", x, x.whose(1, 1, 0), 0, 1);
        CHECKS.fraction("b's alone", x, x.whose(1, 1, 1), 1, 1);
        CHECKS.refused("nobody's", x, x.whose(0, 1, 0), 8);
        CHECKS.refused("owner 2", x, x.whose(0, 1, 2), 2);
        CHECKS.refused("person 2", x, x.whose(2, 0, 0), 2);
        CHECKS.refused("spot 10", x, x.whose(0, 10, 0), 2);
        CHECKS.due("the fraction stays", x.top(), 1);
        x.rewrite(1, 2, 9);
        CHECKS.fraction("by weights now", x, x.whose(0, 0, 1), 3, 5);
    }

    // Promises 36, 37
    private static void laws() {
        ItchParish x = Checks.with(FOUR);
        CHECKS.refused("tray 4", x, x.laws(4, 0), 1);
        CHECKS.refused("tray -1", x, x.lawOf(-1, 0, 0), 1);
        CHECKS.refused("missing", x, x.laws(0, -1), 3);
        CHECKS.refused("missing", x, x.lawOf(0, 0, 2), 3);
        x.tray(0, 3, 60);
        long[] threes = {3, 1, 1, 0, 2, 8, 2, 0, 0};
        for (int k = 0; k < threes.length; k++) {
            x.write(0, k, threes[k]);
        }
        CHECKS.fine("no threes", x, x.laws(0, 0), 90);
        CHECKS.fine("steps 2, 6", x, x.laws(0, 3), 2);
        CHECKS.fine("step", x, x.lawOf(0, 3, 0), 2);
        CHECKS.fine("spot", x, x.lawOf(0, 3, 1), 8);
        CHECKS.refused("what 2", x, x.lawOf(0, 3, 2), 5);
        CHECKS.refused("what -1", x, x.lawOf(0, 3, -1), 5);
        CHECKS.refused("n -1", x, x.laws(0, -1), 5);
        CHECKS.refused("n 16", x, x.laws(0, 16), 5);
        CHECKS.refused("n 21", x, x.laws(0, 21), 4);
        CHECKS.refused("n far", x, x.laws(0, Integer.MAX_VALUE), 4);
        CHECKS.refused("n below", x, x.lawOf(0, Integer.MIN_VALUE, 0), 5);
        CHECKS.fine("fifteen, of zeroes", x, x.laws(0, 15), 0);
        CHECKS.refused("none fits", x, x.lawOf(0, 15, 0), 8);
        long[][] bad = {{4, -1, 1L << 32}, {4, -1, 1L << 32}, {10, -1, 1L << 32}};
        for (int k = 0; k < 3; k++) {
            for (long number : bad[k]) {
                x.write(0, 6 + k, number);
                CHECKS.refused("a number that can't be", x, x.laws(0, 3), 5);
                CHECKS.fine("not among the first", x, x.laws(0, 2), 2);
            }
            x.write(0, 6 + k, threes[6 + k]);
        }
        x.tray(1, 0, 8);
        CHECKS.refused("too few", x, x.laws(1, 3), 4);
        CHECKS.refused("too few", x, x.lawOf(1, 3, 9), 4);
        ItchParish nobody = new ItchParish();
        nobody.tray(0, 0, 3);
        CHECKS.refused("nobody", nobody, nobody.laws(0, 1), 5);
    }

    // Promises 38, 39
    private static void handsAndWays() {
        ItchParish x = Checks.with(SEVEN);
        int[] fromFirst = {0, 3, 1, 1, 2, 2, 2};
        for (int other = 0; other < 7; other++) {
            CHECKS.fine("hands 0 " + other, x, x.hands(0, other), fromFirst[other]);
        }
        CHECKS.fine("hands 6 0", x, x.hands(6, 0), 3);
        CHECKS.refused("hands 7", x, x.hands(7, 0), 2);
        CHECKS.refused("hands -1", x, x.hands(0, -1), 2);
        int[] way = {0, 2, 5, 1};
        for (int k = 0; k < 4; k++) {
            CHECKS.fine("way 0 1 " + k, x, x.way(0, 1, k), way[k]);
        }
        CHECKS.refused("way 4", x, x.way(0, 1, 4), 8);
        CHECKS.refused("way -1", x, x.way(0, 1, -1), 8);
        CHECKS.refused("way far", x, x.way(0, 1, Integer.MAX_VALUE), 8);
        CHECKS.refused("way of 7", x, x.way(0, 7, -1), 2);
        CHECKS.fine("way to himself", x, x.way(3, 3, 0), 3);
        CHECKS.refused("way to himself", x, x.way(3, 3, 1), 8);
        ItchParish y = Checks.with("kind step 2 spot 0;person a home 0;person b home 0;person c home 0;person d home 0;");
        CHECKS.refused("by none", y, y.hands(0, 1), 8);
        CHECKS.refused("by none", y, y.way(0, 1, 0), 8);
        CHECKS.fine("by one", y, y.hands(3, 1), 1);
        CHECKS.fine("himself", y, y.hands(3, 3), 0);
    }

    // Promise 40
    private static void signs() {
        ItchParish x = Checks.with("kind step 1 spot 3;kind step 5 spot 4;kind step 9 spot 3;kind step 8 spot 0;"
            + "person a home 0;person b home 0;person c home 0;person d home 0;");
        CHECKS.fine("two spots", x, x.signs(0, 1), 2);
        CHECKS.fine("none", x, x.signs(0, 2), 0);
        CHECKS.fine("on himself", x, x.signs(2, 2), 1);
        CHECKS.refused("person 4", x, x.signs(4, 0), 2);
        CHECKS.refused("person -1", x, x.signs(0, -1), 2);
    }

    // Promise 41
    private static void walks() {
        ItchParish x = Checks.with(FOUR);
        CHECKS.fine("no things", x, x.walk(59, 0), 0);
        CHECKS.fine("one", x, x.walk(0, 1), 10);
        CHECKS.fine("one from above", x, x.walk(59, 1), 49);
        CHECKS.fine("between, down first", x, x.walk(20, 3), 40);
        CHECKS.fine("between, up first", x, x.walk(30, 3), 40);
        CHECKS.fine("between, the middle", x, x.walk(25, 3), 45);
        CHECKS.fine("from below", x, x.walk(5, 31), 35);
        CHECKS.fine("from above", x, x.walk(50, 31), 40);
        CHECKS.fine("there already", x, x.walk(40, 22), 0);
        CHECKS.refused("place 60", x, x.walk(60, 0), 5);
        CHECKS.refused("place -1", x, x.walk(-1, 0), 5);
        CHECKS.refused("set 32", x, x.walk(0, 32), 5);
        CHECKS.refused("set -1", x, x.walk(0, -1), 5);
    }

    // Promise 42
    private static void shares() {
        ItchParish x = Checks.with(FOUR);
        CHECKS.fraction("alone", x, x.share(0, 1, 0), 10, 1);
        CHECKS.fraction("0 of 0, 1", x, x.share(0, 3, 0), 5, 1);
        CHECKS.fraction("1 of 0, 1", x, x.share(0, 3, 1), 35, 1);
        CHECKS.fraction("0 from between", x, x.share(20, 3, 0), 15, 1);
        CHECKS.fraction("1 from between", x, x.share(20, 3, 1), 25, 1);
        CHECKS.fraction("0 of 0, 1, 3", x, x.share(0, 11, 0), 10, 3);
        CHECKS.fraction("3 of 0, 1, 3", x, x.share(0, 11, 3), 16, 3);
        CHECKS.fraction("1 of 0, 1, 3", x, x.share(0, 11, 1), 94, 3);
        CHECKS.refused("thing 5", x, x.share(60, 31, 5), 2);
        CHECKS.refused("thing -1", x, x.share(0, 31, -1), 2);
        CHECKS.refused("place 60", x, x.share(60, 1, 1), 5);
        CHECKS.refused("set 33", x, x.share(0, 33, 0), 5);
        CHECKS.refused("set -1", x, x.share(0, -1, 0), 5);
        CHECKS.refused("not of the set", x, x.share(0, 29, 1), 8);
    }

    // Promises 43, 44
    private static void games() {
        ItchParish x = Checks.with(THREE);
        int[] worths = {0, 5, -4, -1};
        for (int turns = 0; turns < 4; turns++) {
            CHECKS.fine("game 0 1 " + turns, x, x.game(0, 1, turns), worths[turns]);
        }
        CHECKS.fine("game 1 0 1", x, x.game(1, 0, 1), 9);
        CHECKS.fine("game 1 0 2", x, x.game(1, 0, 2), 4);
        CHECKS.fine("move 0 1 1", x, x.moveOf(0, 1, 1), 0);
        CHECKS.fine("move 0 1 3, alike the first", x, x.moveOf(0, 1, 3), 0);
        CHECKS.fine("move 1 0 1", x, x.moveOf(1, 0, 1), 2);
        CHECKS.refused("turns 5", x, x.game(0, 1, 5), 5);
        CHECKS.refused("turns -1", x, x.game(0, 1, -1), 5);
        CHECKS.refused("himself", x, x.game(1, 1, 1), 5);
        CHECKS.refused("person 3", x, x.game(3, 3, 5), 2);
        CHECKS.refused("person -1", x, x.game(0, -1, 1), 2);
        CHECKS.refused("move, turns 0", x, x.moveOf(0, 1, 0), 5);
        CHECKS.refused("move, turns 5", x, x.moveOf(0, 1, 5), 5);
        CHECKS.refused("move, himself", x, x.moveOf(0, 0, 1), 5);
        CHECKS.refused("move, person 3", x, x.moveOf(3, 0, 0), 2);
        CHECKS.fine("nothing is done", x, x.many(6), 7);
        ItchParish y = Checks.with(FOUR);
        CHECKS.fine("none is up", y, y.game(0, 1, 4), 0);
        CHECKS.refused("nothing", y, y.moveOf(0, 1, 4), 8);
    }

    // Promise 45
    private static void tongues() {
        ItchParish x = new ItchParish();
        CHECKS.fraction("0", x, x.tongue(0), 0, 1);
        CHECKS.fraction("1", x, x.tongue(1), 1, 4);
        CHECKS.fraction("2", x, x.tongue(2), 7, 16);
        x.rule(3, 0);
        CHECKS.fraction("never", x, x.tongue(12), 0, 1);
        x.rule(3, 16);
        CHECKS.fraction("at once", x, x.tongue(1), 1, 1);
        CHECKS.fraction("not in none", x, x.tongue(0), 0, 1);
        x.rule(3, 1);
        CHECKS.fraction("12", x, x.tongue(12), 151728638820031L, 281474976710656L);
        CHECKS.refused("13", x, x.tongue(13), 5);
        CHECKS.refused("-1", x, x.tongue(-1), 5);
    }

    private static void lived(String what, ItchParish x, int... tallies) {
        for (int k = 0; k < 5; k++) {
            CHECKS.fine(what + " lived " + k, x, x.lived(k), tallies[k]);
        }
    }

    // Promises 46, 47
    private static void livesPlain() {
        ItchParish x = Checks.with(FOUR);
        CHECKS.refused("none lived", x, x.lived(0), 8);
        CHECKS.refused("what 5", x, x.lived(5), 5);
        CHECKS.refused("what -1", x, x.lived(-1), 5);
        CHECKS.refused("no days", x, x.live(0), 8);
        CHECKS.refused("seed -1", x, x.live(-1), 5);
        CHECKS.refused("seed 10000", x, x.live(10000), 5);
        Checks.days(x, "wait 10;scratch cy 0;lose al 1;when up 0;wait 1;end;when minute=10;wait 2;when found 0;stop;end;"
            + "end;wait 8;when found 0;loop 3;wait 2;end;stop;end;wait 99;");
        CHECKS.fine("live", x, x.live(9999), 14);
        lived("plain", x, 0, 26, 1, 1, 0);
        CHECKS.fine("the MINUTE", x, x.many(5), 26);
        CHECKS.fine("the scratched", x, x.many(7), 1);
        CHECKS.fine("lost at", x, x.thing(5, 3), 10);
        CHECKS.fine("worth 1", x, x.thing(5, 2), 1);
        CHECKS.refused("seed 10000", x, x.live(10000), 5);
        Checks.district(x, "");
        lived("whatever came since", x, 0, 26, 1, 1, 0);
        CHECKS.refused("no days", x, x.live(0), 8);
        lived("with STATUS 0", x, 0, 26, 1, 1, 0);
        Checks.days(x, "when minute<1;when minute>0;wait 1;end;when minute=0;wait 3;end;end;");
        CHECKS.fine("compares", x, x.live(0), 4);
        lived("compares", x, 0, 3, 0, 0, 0);
    }

    // Promises 46, 47
    private static void livesMissed() {
        ItchParish x = Checks.with(FOUR);
        Checks.days(x, "scratch cy 0;scratch cy 7;scratch al 0;loop 4;lose bo 2;end;any;when up 7;wait 99;end;when found 7;wait 99;end;");
        x.rule(3, 16);
        // Whatever is drawn, no THING is UP at MINUTE 0.
        CHECKS.fine("missed", x, x.live(0), 11);
        lived("missed", x, 5, 0, 3, 0, 0);
        ItchParish y = Checks.with("odds 0;kind step 1 spot 0;person a home 0;thing a 0;");
        for (int k = 0; k < 10; k++) {
            y.pass(990);
        }
        Checks.days(y, "wait 99;any;wait 1;");
        y.pass(1);
        CHECKS.fine("as a whole", y, y.live(0), 3);
        lived("as a whole", y, 1, 2, 0, 0, 0);
        CHECKS.fine("9903", y, y.many(5), 9903);
        y.pass(96);
        CHECKS.fine("by any, too", y, y.live(0), 3);
        lived("by any, too", y, 3, 0, 0, 0, 0);
        ItchParish nobody = new ItchParish();
        Checks.days(nobody, "any;any;");
        CHECKS.fine("nobody", nobody, nobody.live(0), 2);
        lived("nobody", nobody, 2, 0, 0, 0, 0);
        ItchParish nothing = Checks.with("person a home 0;");
        Checks.days(nothing, "any;");
        CHECKS.fine("nothing", nothing, nothing.live(0), 1);
        lived("nothing", nothing, 1, 0, 0, 0, 0);
    }

    // Promises 46, 47
    private static void livesCut() {
        ItchParish x = Checks.with("person a home 0;");
        Checks.days(x, "loop 99;wait 1;wait 1;wait 1;end;wait 1;wait 1;");
        CHECKS.fine("300", x, x.live(0), 300);
        lived("300 are all", x, 0, 299, 0, 0, 0);
        Checks.days(x, "loop 99;wait 1;wait 1;wait 1;end;wait 1;wait 1;stop;");
        CHECKS.fine("301", x, x.live(0), 300);
        lived("a stop is left", x, 0, 299, 0, 0, 1);
        Checks.days(x, "loop 99;wait 1;wait 1;wait 1;end;wait 1;stop;wait 1;");
        CHECKS.fine("stopped", x, x.live(0), 300);
        lived("by stop alone", x, 0, 298, 0, 0, 0);
        Checks.days(x, "loop 99;loop 2;end;when minute=9999;any;end;wait 1;end;wait 1;loop 9;end;");
        CHECKS.fine("nothing to be done", x, x.live(0), 300);
        lived("a loop about nothing is no step to be done", x, 0, 100, 0, 0, 0);
        Checks.days(x, "loop 99;loop 99;end;end;");
        CHECKS.fine("loops about nothing", x, x.live(0), 100);
        Checks.days(x, "loop 99;stop;end;");
        CHECKS.fine("stopped in a loop", x, x.live(0), 2);
        Checks.days(x, "when minute>0;wait 1;end;");
        CHECKS.fine("a when where the loop was", x, x.live(0), 2);
        Checks.days(x, "loop 2;loop 3;when minute<0;end;wait 1;end;end;");
        CHECKS.fine("loops in loops", x, x.live(0), 15);
        lived("loops in loops", x, 0, 6, 0, 0, 0);
    }

    private static int drawn;

    private static int draw(int by) {
        drawn = (drawn * 2971 + 10957) % 65536;
        return drawn / 8 % by;
    }

    // Promise 46: one PERSON alone who bears all that he loses, and can do all: ODDS decide.
    private static void livesDraw() {
        String text = "odds 7;kind step 1 spot 0;person a home 0 reach 0 1;person b home 0 reach 1;person c home 9;"
            + "thing a 0;thing b 0;thing c 0;thing a 0;thing c 0;";
        for (int seed = 0; seed < 10000; seed += 617) {
            ItchParish x = Checks.with(text);
            ItchParish y = Checks.with(text);
            Checks.days(x, "loop 20;any;end;");
            int missed = 0;
            int minutes = 0;
            int scratched = 0;
            drawn = seed;
            for (int k = 0; k < 20; k++) {
                int person = draw(3);
                int thing = draw(5);
                if (draw(16) >= 7) {
                    y.pass(1);
                    minutes++;
                } else if (y.scratch(person, thing) != NONE) {
                    scratched++;
                } else {
                    missed++;
                }
            }
            CHECKS.fine("live " + seed, x, x.live(seed), 21);
            lived("draws " + seed, x, missed, minutes, 0, scratched, 0);
            CHECKS.due("scratched " + seed, x.many(7), y.many(7));
        }
    }

    // Promise 48
    private static void means() {
        ItchParish x = Checks.with(FOUR);
        CHECKS.refused("no days", x, x.mean(0, 1), 8);
        CHECKS.refused("many 0", x, x.mean(0, 0), 5);
        CHECKS.refused("many 21", x, x.mean(0, 21), 5);
        Checks.days(x, "wait 10;scratch cy 0;wait 20;scratch di 1;loop 20;any;end;");
        CHECKS.refused("seed -1", x, x.mean(-1, 1), 5);
        CHECKS.refused("the last above", x, x.mean(9999, 2), 5);
        CHECKS.refused("the last above", x, x.mean(9980, 21), 5);
        CHECKS.refused("far", x, x.mean(Integer.MAX_VALUE, 20), 5);
        CHECKS.refused("far below", x, x.mean(0, Integer.MIN_VALUE), 5);
        for (int seed = 9979; seed <= 9980; seed++) {
            long sum = 0;
            for (int k = 0; k < 20; k++) {
                x.mark();
                x.live(seed + k);
                sum += Integer.bitCount(x.many(8));
                x.back();
            }
            x.lived(0);
            int missed = x.lived(0);
            CHECKS.fine("mean " + seed, x, x.mean(seed, 20));
            CHECKS.due("the mean", x.top() * 20, sum * x.bottom());
            CHECKS.fine("lived stays", x, x.lived(0), missed);
            CHECKS.fine("the MINUTE stays", x, x.many(5), 0);
            CHECKS.fine("all stays", x, x.many(7), 0);
        }
        Checks.days(x, "wait 10;scratch cy 0;wait 10;");
        CHECKS.fraction("found at the end", x, x.mean(5, 3), 1, 1);
        Checks.days(x, "wait 10;scratch cy 0;wait 9;");
        CHECKS.fraction("not yet found", x, x.mean(5, 3), 0, 1);
    }

    // Promises 49, 50
    private static void marks() {
        ItchParish x = Checks.with(FOUR);
        Checks.days(x, "any;");
        x.tray(0, 3, 1);
        CHECKS.fine("mark", x, x.mark(), 1);
        x.pass(30);
        x.scratch(2, 0);
        x.teach(0, 0, true);
        x.move(1, 20);
        x.rewrite(0, 2, 9);
        x.rule(3, 0);
        x.rule(4, 0);
        x.come(3);
        x.lose(0, 0, 1);
        x.write(0, 0, 5);
        x.tongue(0);
        CHECKS.fine("mark", x, x.mark(), 2);
        Checks.district(x, "");
        CHECKS.fine("mark", x, x.mark(), 3);
        CHECKS.refused("a fourth", x, x.mark(), 7);
        Checks.district(x, SEVEN);
        Checks.days(x, "stop;stop;");
        CHECKS.fine("back", x, x.back(), 2);
        CHECKS.fine("nobody", x, x.many(1), 0);
        CHECKS.refused("no days", x, x.live(0), 8);
        CHECKS.fine("back", x, x.back(), 1);
        int[] many = {3, 5, 6, 0, 0, 30};
        for (int what = 0; what < many.length; what++) {
            CHECKS.fine("back many " + what, x, x.many(what), many[what]);
        }
        CHECKS.fine("days again", x, x.live(0), 1);
        CHECKS.fine("scratched", x, x.many(7), 1);
        CHECKS.fine("back", x, x.back(), 0);
        int[] first = {3, 4, 5, 8, 6, 0, 0, 0, 0};
        for (int what = 0; what < first.length; what++) {
            CHECKS.fine("first many " + what, x, x.many(what), first[what]);
        }
        CHECKS.fine("reach", x, x.person(0, 1), 24);
        CHECKS.fine("home", x, x.person(1, 0), 10);
        CHECKS.fine("weight", x, x.kind(0, 2), 1);
        CHECKS.fine("names", x, Checks.days(x, "lose di 2;"), 1);
        CHECKS.fine("trays stay", x, x.read(0, 0), 5);
        CHECKS.refused("back to none", x, x.back(), 8);
        CHECKS.fine("mark again", x, x.mark(), 1);
    }
}
