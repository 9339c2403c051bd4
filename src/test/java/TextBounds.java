/** The edges of what is said of the tape, of DISTRICTS and of DAYS as texts: promises 9 to 12 and their terms. */
final class TextBounds {
    private static final int NONE = ItchParish.NONE;
    private static final String[] NO_NAMES = {"odds", "arm", "kind", "step", "spot", "weight", "person", "home", "reach", "thing",
        "worth", "lose", "wait", "scratch", "any", "when", "found", "up", "minute", "loop", "end", "stop"};
    private static final String KIND = "kind step 1 spot 1;";
    private static final String TWO = "kind step 1 spot 1;kind step 2 spot 2;person a home 0;person b home 5;";

    private final Sentences s;

    TextBounds(Sentences sentences) {
        s = sentences;
    }

    void tell() {
        feed();
        takesFirstBytes();
        daysTakeFirstBytes();
        faultTold();
        blanks();
        words();
        numbers();
        signs();
        names();
        rules();
        kinds();
        people();
        things();
        firstFault();
        faultPlaces();
        grammar();
        districtInPlace();
        daysGrammar();
        daysNumbers();
        daysDepth();
    }

    private static String filled(String text, int length) {
        return text + " ".repeat(length - text.length());
    }

    private static String spaced(int count) {
        return " ".repeat(count);
    }

    private void feed() {
        ItchParish x = new ItchParish();
        s.says(9, "Twenty bytes come behind those on the tape, the highest of each int first: how many it has");
        s.due("feed 1", x.feed('o' << 24 | 'd' << 16 | 'd' << 8 | 's', ' ' << 24 | '1' << 16 | '3' << 8 | ';', 0x20202020, 0x20202020,
            0x61726d20), 20);
        s.due("feed 2", x.feed('7' << 24 | ';' << 16 | 0x2020, 0x20202020, 0x20202020, 0x20202020, 0x20202020), 40);
        s.fine("district(40)", x, x.district(40), 0);
        s.fine("odds 13", x, x.many(3), 13);
        s.fine("arm 7", x, x.many(4), 7);
        s.says(9, "NONE if there would be more than 900");
        for (int k = 1; k <= 45; k++) {
            s.due("feed " + k, x.feed(0x20202020, 0x20202020, 0x20202020, 0x20202020, k == 45 ? 0x2020203b : 0x20202020), 20 * k);
        }
        x.many(9);
        s.due("feed 46", x.feed(0, 0, 0, 0, 0), NONE);
        s.due("feed 47", x.feed(0, 0, 0, 0, 0), NONE);
        s.says(2, "status(), fault(), feed(), top(), bottom() have none");
        s.due("status() behind feed", x.status(), 5);
        s.says(10, "A DISTRICT is a TEXT of at most 900 bytes");
        s.refused("district(901)", x, x.district(901), 5);
        s.refused("district(MAX)", x, x.district(Integer.MAX_VALUE), 5);
        s.refused("the 900 are there as they were", x, x.district(900), 10);
        s.due("the last byte is the fault", x.fault(1), 899);
        s.due("the tape is empty", x.feed(0, 0, 0, 0, 0), 20);
        ItchParish y = new ItchParish();
        s.fine("a district of 900 bytes", y, Checks.district(y, filled("person a home 59", 899) + ";"), 1);
        s.fine("900 bytes of TOKENS", y, Checks.district(y, "odds " + "1;".repeat(1) + spaced(887) + "arm 9;"), 0);
        s.fine("arm 9", y, y.many(4), 9);
    }

    private void takesFirstBytes() {
        ItchParish x = Checks.with(TWO);
        s.says(10, "The first n bytes of the tape (which is empty then, but for 5) are the DISTRICT:");
        Checks.feed(x, "odds 16;?            ");
        s.fine("what stands behind is no matter", x, x.district(8), 0);
        s.fine("odds 16", x, x.many(3), 16);
        Checks.feed(x, "odds 16;");
        s.refused("cut within a number", x, x.district(7), 10);
        s.due("the end misses a ;", x.fault(1), 7);
        Checks.feed(x, "arm 16;");
        s.refused("cut", x, x.district(5), 10);
        Checks.feed(x, "arm 10;arm 12345;");
        s.fine("cut ahead of a fault", x, x.district(7), 0);
        s.fine("arm 10", x, x.many(4), 10);
        s.says(10, "(which is empty then, but for 5)");
        s.refused("n 1 of an empty tape", x, x.district(1), 5);
        s.due("feed", x.feed(0x3b3b3b3b, 0, 0, 0, 0), 20);
        s.refused("n 21 of 20", x, x.district(21), 5);
        s.refused("n -1", x, x.district(-1), 5);
        s.refused("n MIN", x, x.district(Integer.MIN_VALUE), 5);
        s.due("the tape is kept for 5", x.feed(0, 0, 0, 0, 0), 40);
        s.refused("n 40 of 40", x, x.district(40), 10);
        s.due("the tape is empty for 10", x.feed(0x20202020, 0x20202020, 0x20202020, 0x20202020, 0x20202020), 20);
        s.fine("n 0 of 20", x, x.district(0), 0);
        s.due("the tape is empty for n 0", x.feed(0x20202020, 0x20202020, 0x20202020, 0x20202020, 0x20202020), 20);
        s.fine("n 20 of 20", x, x.district(20), 0);
        s.says(10, "how many PEOPLE (5; 10: the old one stays)");
        s.fine("seven", x, Checks.district(x, seven()), 7);
        x.pass(9);
        s.refused("a fault at the end", x, Checks.district(x, "odds 3;arm 3;person z home 9;!"), 10);
        s.fine("seven still", x, x.many(1), 7);
        s.fine("odds still", x, x.many(3), 4);
        s.fine("the MINUTE still", x, x.many(5), 9);
        s.fine("people still", x, x.person(0, 0), 0);
        s.fine("days by their names", x, Checks.days(x, "scratch a 0;"), 1);
    }

    private static String seven() {
        return "person a home 0;person b home 1;person c home 2;person d home 3;person e home 4;person f home 5;person g home 6;";
    }

    private void daysTakeFirstBytes() {
        ItchParish x = Checks.with(TWO);
        s.says(11, "Likewise the DAYS: how many STEPS");
        s.fine("n 0", x, x.days(0), 0);
        s.fine("DAYS of no STEPS are there", x, x.live(0), 0);
        Checks.feed(x, "any;?");
        s.fine("the first four", x, x.days(4), 1);
        s.says(11, "(5: above 300, too; 10)");
        s.refused("n 1 of none", x, x.days(1), 5);
        s.refused("n -1", x, x.days(-1), 5);
        s.refused("n MIN", x, x.days(Integer.MIN_VALUE), 5);
        Checks.feed(x, filled("stop;stop;", 300));
        s.refused("n 301 of 300", x, x.days(301), 5);
        s.due("the tape is kept", x.feed(0x20202020, 0x20202020, 0x20202020, 0x20202020, 0x20202020), 320);
        s.refused("n 301 of 320", x, x.days(301), 5);
        s.refused("n 320 of 320", x, x.days(320), 5);
        s.refused("n MAX", x, x.days(Integer.MAX_VALUE), 5);
        s.fine("the old ones stay for 5", x, x.live(0), 1);
        s.says(11, "DAYS are a TEXT of at most 300 bytes, of such TOKENS (none at first)");
        s.fine("n 300 of 320", x, x.days(300), 2);
        s.due("the tape is empty", x.feed(0x3f3f3f3f, 0, 0, 0, 0), 20);
        s.refused("a fault", x, x.days(1), 10);
        s.due("the tape is empty for 10", x.feed(0, 0, 0, 0, 0), 20);
        s.fine("the old ones stay for 10", x, x.live(0), 1);
        ItchParish y = new ItchParish();
        s.refused("none at first", y, y.live(0), 8);
        s.refused("none at first", y, y.mean(0, 1), 8);
        s.fine("300 bytes to the last", y, Checks.days(y, spaced(296) + "any;"), 1);
    }

    private void faultTold() {
        ItchParish x = new ItchParish();
        s.says(12, "NONE for others, and ahead of any.");
        for (int what = -1; what <= 2; what++) {
            s.due("ahead of any " + what, x.fault(what), NONE);
        }
        x.district(1);
        x.days(-1);
        s.due("5 tells nothing", x.fault(0), NONE);
        s.due("5 tells no place", x.fault(1), NONE);
        s.says(12, "Of the latest of these with STATUS 0 or 10, what 0: the FAULT (0 without one), 1: its place (NONE without).");
        x.district(0);
        s.due("district of STATUS 0", x.fault(0), 0);
        s.due("district of STATUS 0", x.fault(1), NONE);
        Checks.district(x, "odds 1;odds 2;");
        s.due("district of STATUS 10", x.fault(0), 5);
        s.due("district of STATUS 10", x.fault(1), 7);
        x.district(1);
        x.days(301);
        s.due("5 leaves it", x.fault(0), 5);
        s.due("5 leaves it", x.fault(1), 7);
        x.days(0);
        s.due("days of STATUS 0", x.fault(0), 0);
        s.due("days of STATUS 0", x.fault(1), NONE);
        Checks.days(x, "wait 0;");
        s.due("days of STATUS 10", x.fault(0), 4);
        s.due("days of STATUS 10", x.fault(1), 5);
        Checks.district(x, ";");
        s.due("the latest of both", x.fault(0), 2);
        s.due("a place 0", x.fault(1), 0);
        s.says(12, "NONE for others, and ahead of any.");
        s.due("fault(2)", x.fault(2), NONE);
        s.due("fault(-1)", x.fault(-1), NONE);
        s.due("fault(MIN)", x.fault(Integer.MIN_VALUE), NONE);
        s.due("fault(MAX)", x.fault(Integer.MAX_VALUE), NONE);
        Checks.district(x, "arm 3;");
        s.due("fault(2) without one", x.fault(2), NONE);
        s.says(2, "status(), fault(), feed(), top(), bottom() have none");
        x.many(9);
        x.fault(0);
        s.due("status() behind fault(0)", x.status(), 5);
        x.fault(2);
        s.due("status() behind fault(2)", x.status(), 5);
    }

    private void blanks() {
        ItchParish x = new ItchParish();
        s.says(10, "TOKENS, as long as they go, between them blanks (10, 32)");
        s.fine("10 and 32", x, Checks.district(x, "\n odds\n\n3 \n;\n"), 0);
        s.fine("odds 3", x, x.many(3), 3);
        s.fine("blanks alone", x, Checks.district(x, " \n \n"), 0);
        s.fine("none where a TOKEN ends by itself", x, Checks.district(x, "odds5;arm6;kind step7spot8weight9;person z home 1reach2 3;"), 1);
        s.fine("weight 9", x, x.kind(0, 2), 9);
        s.fine("reach 2 3", x, x.person(0, 1), 12);
        s.fine("a NUMBER goes as long as it can", x, Checks.district(x, "arm 12;"), 0);
        s.fine("arm 12", x, x.many(4), 12);
        s.districtFault("arm 1 2;", 2, 6);
        s.districtFault("kindstep 1 spot 1;", 2, 0);
        s.districtFault("kind step1 spotweight 1;", 2, 11);
        s.districtFault("person ahome 1;", 2, 13);
        s.districtFault("pers on a home 1;", 2, 0);
        for (char sign : new char[] {0, 1, 9, 11, 12, 13, 31, 33, 127, 128, 160, 255}) {
            s.districtFault("odds" + sign + "1;", 1, 4);
            s.districtFault("" + sign, 1, 0);
        }
    }

    private void words() {
        s.says(10, "WORDS (small letters)");
        s.districtFault("person A home 1;", 1, 7);
        s.districtFault("person Z home 1;", 1, 7);
        s.districtFault("person ` home 1;", 1, 7);
        s.districtFault("person { home 1;", 1, 7);
        s.districtFault("person \u00e9 home 1;", 1, 7);
        s.districtFault("person aB home 1;", 1, 8);
        s.districtFault("person a_b home 1;", 1, 8);
        s.districtFault("Person a home 1;", 1, 0);
        ItchParish x = new ItchParish();
        s.fine("a and z", x, Checks.district(x, "person a home 1;person z home 2;person az home 3;person za home 4;"), 4);
    }

    private void numbers() {
        s.says(10, "NUMBERS (1 to 4 digits)");
        s.districtFault("odds 9999;", 4, 5);
        s.districtFault("odds 0017;", 4, 5);
        s.districtFault("odds 00000;", 1, 5);
        s.districtFault("odds 00004;", 1, 5);
        s.districtFault("odds /;", 1, 5);
        s.districtFault("odds :;", 1, 5);
        s.districtFault("odds +4;", 1, 5);
        s.districtFault("odds 4.0;", 1, 6);
        ItchParish x = new ItchParish();
        s.fine("four digits", x, Checks.district(x, "odds 0016;arm 059;person a home 0000 reach 0009 00 1;"), 1);
        s.fine("odds 16", x, x.many(3), 16);
        s.fine("arm 59", x, x.many(4), 59);
        s.fine("reach 9 0 1", x, x.person(0, 1), 515);
        s.districtFault("person a home 0 reach 0 00;", 5, 24);
        s.says(12, "1 no TOKEN begins so (a NUMBER of 5 digits and more: at its first)");
        s.districtFault("12345", 1, 0);
        s.districtFault("odds  10000;", 1, 6);
        s.districtFault("odds 123456789012345678901234567890;", 1, 5);
        s.districtFault("odds 4;99999", 1, 7);
        s.districtFault("odds 4 99999;", 1, 7);
        s.districtFault("odds 4;;99999", 2, 7);
        s.districtFault("9".repeat(900), 1, 0);
    }

    private void signs() {
        s.says(10, "SIGNS ; < > =");
        for (char sign : new char[] {'<', '>', '=', ';'}) {
            s.districtFault("odds " + sign + ";", 2, 5);
            s.districtFault("" + sign, 2, 0);
        }
        for (char sign : new char[] {':', '?', ',', '!', '(', '-', '{', '}', '|', '~', '@', '[', ']'}) {
            s.districtFault("odds 1" + sign, 1, 6);
        }
        ItchParish x = new ItchParish();
        s.fine("each sign is a TOKEN", x, Checks.days(x, "when minute<1;end;when minute>1;end;when minute=1;end;"), 3);
        s.daysFault("", "when minute<=1;end;", 2, 12);
        s.daysFault("", "when minute==1;end;", 2, 12);
        s.daysFault("", "when minute!1;end;", 1, 11);
    }

    private void names() {
        s.says(10, "NAME: a WORD of 1 to 8 letters that is none of odds, arm, kind, step, spot, weight, person, home, reach, thing, worth, lose, "
            + "wait, scratch, any, when, found, up, minute, loop, end, stop.");
        ItchParish x = new ItchParish();
        s.fine("1 to 8 letters", x, Checks.district(x, "person a home 0;person ab home 1;person abcdefg home 2;person abcdefgh home 3;"
            + "person zzzzzzzz home 4;"), 5);
        s.fine("each is another one", x, Checks.days(x, "scratch abcdefgh 0;scratch abcdefg 0;scratch zzzzzzzz 0;"), 3);
        for (String word : NO_NAMES) {
            s.districtFault("person " + word + " home 0;", 2, 7);
            s.districtFault("thing " + word + " 0;", 2, 6);
            s.daysFault(TWO, "lose " + word + " 0;", 2, 5);
        }
        for (String word : new String[] {"odd", "oddss", "bodds", "dsod", "ends", "en", "nd", "u", "upp", "pu", "thin", "things", "scratc"}) {
            ItchParish y = new ItchParish();
            s.fine("a NAME: " + word, y, Checks.district(y, KIND + "person " + word + " home 7;thing " + word + " 0;"), 1);
        }
        s.says(12, "a WORD of 9 letters and more where a NAME must stand");
        s.districtFault("person abcdefghi home 0;", 2, 7);
        s.districtFault("person " + "a".repeat(60) + " home 0;", 2, 7);
        s.districtFault("person abcdefgh home 0;" + KIND + "thing abcdefghi 0;", 2, 48);
        s.daysFault("person abcdefgh home 0;" + KIND, "lose abcdefghi 0;", 2, 5);
        s.daysFault("person abcdefgh home 0;" + KIND, "scratch abcdefghi 0;", 2, 8);
        s.districtFault("scratched 0;", 2, 0);
        s.says(10, "No two PEOPLE have one NAME.");
        s.says(12, "3 a new NAME that is taken; a NAME that is no PERSON told ahead.");
        s.districtFault("person a home 0;person b home 0;person a home 0;", 3, 39);
        s.districtFault("person a home 0;person a", 3, 23);
        s.districtFault("person abcdefgh home 0;person abcdefgh home", 3, 30);
        s.districtFault(KIND + "thing a 0;person a home 0;", 3, 25);
        s.districtFault("person a home 0;thing aa 0;", 3, 22);
        s.districtFault("person aa home 0;thing a 9;", 3, 23);
        ItchParish z = new ItchParish();
        s.fine("one NAME ahead of another DISTRICT", z, Checks.district(z, "person a home 0;"), 1);
        s.fine("is free in it", z, Checks.district(z, "person a home 1;"), 1);
        s.refused("a NAME of the old one is none", z, Checks.district(z, "thing a 0;"), 10);
        s.due("fault(0)", z.fault(0), 3);
    }

    private void rules() {
        ItchParish x = new ItchParish();
        s.says(10, "ODDS (0 to 16; 4 without)");
        s.fine("odds 0", x, Checks.district(x, "odds 0;"), 0);
        s.fine("0", x, x.many(3), 0);
        s.fine("odds 16", x, Checks.district(x, "odds 16;"), 0);
        s.fine("16", x, x.many(3), 16);
        s.fine("without", x, Checks.district(x, "arm 1;"), 0);
        s.fine("4", x, x.many(3), 4);
        s.districtFault("odds 17;", 4, 5);
        s.says(10, "ARM (0 to 59; 5 without)");
        s.fine("arm 0", x, Checks.district(x, "arm 0;"), 0);
        s.fine("0", x, x.many(4), 0);
        s.fine("arm 59", x, Checks.district(x, "arm 59;"), 0);
        s.fine("59", x, x.many(4), 59);
        s.fine("without", x, Checks.district(x, "odds 1;"), 0);
        s.fine("5", x, x.many(4), 5);
        s.districtFault("arm 60;", 4, 4);
        s.says(12, "5 odds, arm told already (at that WORD), a SPOT told twice of one PERSON (at the second).");
        s.districtFault("odds 1;arm 1;odds 1;", 5, 13);
        s.districtFault("odds 1;arm 1;arm", 5, 13);
        s.districtFault("odds 1;odds odds", 5, 7);
        s.districtFault("person a home 1 reach 4 5 4;", 5, 26);
        s.districtFault("person a home 1 reach 9 9", 5, 24);
        s.districtFault("person a home 1 reach 0 1 2 3 4 5 6 7 8 9 0", 5, 42);
        s.fine("one SPOT of two PEOPLE", x, Checks.district(x, "person a home 1 reach 4;person b home 1 reach 4;"), 2);
    }

    private void kinds() {
        ItchParish x = new ItchParish();
        s.says(10, "KINDS, at most 5: STEP (1 to 9), SPOT (0 to 9), WEIGHT (1 to 9; 1 without).");
        s.fine("five", x, Checks.district(x, "kind step 1 spot 0;kind step 9 spot 9;kind step 5 spot 5 weight 1;kind step 5 spot 5 weight 9;" + KIND), 0);
        s.fine("5", x, x.many(0), 5);
        int[][] due = {{1, 0, 1}, {9, 9, 1}, {5, 5, 1}, {5, 5, 9}, {1, 1, 1}};
        for (int kind = 0; kind < 5; kind++) {
            for (int what = 0; what < 3; what++) {
                s.fine("kind(" + kind + ", " + what + ")", x, x.kind(kind, what), due[kind][what]);
            }
        }
        s.districtFault("kind step 0 spot 0;", 4, 10);
        s.districtFault("kind step 10 spot 0;", 4, 10);
        s.districtFault("kind step 1 spot 10;", 4, 17);
        s.districtFault("kind step 1 spot 0 weight 0;", 4, 26);
        s.districtFault("kind step 1 spot 0 weight 10;", 4, 26);
        s.says(12, "6 a sixth kind, an eighth person, a ninth thing (at that WORD).");
        s.districtFault(KIND.repeat(5) + KIND, 6, 95);
        s.districtFault(KIND.repeat(5) + "kind 12345", 6, 95);
        s.districtFault(KIND.repeat(5) + "\nkind", 6, 96);
        s.districtFault(seven() + "person", 6, 112);
        s.districtFault(seven() + "person a home 0;", 6, 112);
        s.districtFault(KIND + "person a home 0;" + "thing a 0;".repeat(8) + "thing", 6, 115);
        s.districtFault(KIND + "person a home 0;" + "thing a 0;".repeat(8) + "thing b 9;", 6, 115);
        s.says(12, "4 a NUMBER that can't be (no such KIND told ahead, too).");
        s.districtFault("person a home 0;thing a 0;" + KIND, 4, 24);
        s.districtFault(KIND + "person a home 0;thing a 1;", 4, 43);
        s.districtFault(KIND.repeat(5) + "person a home 0;thing a 5;", 4, 119);
    }

    private void people() {
        ItchParish x = new ItchParish();
        s.says(10, "PEOPLE, at most 7: HOME (0 to 59, a place of the road), the SPOTS (0 to 9, each told once) that each can REACH on himself (none without).");
        s.fine("seven", x, Checks.district(x, "person a home 0;person b home 59;person c home 0 reach;person d home 0 reach 0;"
            + "person e home 0 reach 9;person f home 0 reach 9 8 7 6 5 4 3 2 1 0;person g home 0 reach 5 1;"), 7);
        int[] homes = {0, 59, 0, 0, 0, 0, 0};
        int[] reaches = {0, 0, 0, 1, 512, 1023, 34};
        for (int person = 0; person < 7; person++) {
            s.fine("HOME " + person, x, x.person(person, 0), homes[person]);
            s.fine("REACH " + person, x, x.person(person, 1), reaches[person]);
        }
        s.districtFault("person a home 60;", 4, 14);
        s.districtFault("person a home 0 reach 10;", 4, 22);
        s.districtFault("person a home 0 reach 0 1 10;", 4, 26);
        s.districtFault("person a home 0 reach 0 1 2 3 4 5 6 7 8 9 10;", 4, 42);
        s.districtFault("person a home 0 reach 0 reach 1;", 2, 24);
    }

    private void things() {
        ItchParish x = new ItchParish();
        s.says(10, "THINGS, at most 8: of an owner (a PERSON told ahead), of a KIND told ahead, WORTH (1 to 9; 1 without); LOST at MINUTE 0.");
        s.fine("eight", x, Checks.district(x, KIND + "person a home 0;thing a 0;thing a 0 worth 1;thing a 0 worth 9;" + KIND
            + "person b home 0;thing b 1 worth 5;thing b 0;thing a 1;thing b 1;thing a 0;"), 2);
        s.fine("8", x, x.many(2), 8);
        int[] owners = {0, 0, 0, 1, 1, 0, 1, 0};
        int[] kinds = {0, 0, 0, 1, 0, 1, 1, 0};
        int[] worths = {1, 1, 9, 5, 1, 1, 1, 1};
        for (int thing = 0; thing < 8; thing++) {
            s.fine("owner " + thing, x, x.thing(thing, 0), owners[thing]);
            s.fine("KIND " + thing, x, x.thing(thing, 1), kinds[thing]);
            s.fine("WORTH " + thing, x, x.thing(thing, 2), worths[thing]);
            s.fine("LOST " + thing, x, x.thing(thing, 3), 0);
        }
        s.says(10, "All are numbered as they stand.");
        s.fine("b is the second", x, x.person(1, 3), 8 + 16 + 64);
        s.says(10, "WORTH (1 to 9; 1 without)");
        s.districtFault(KIND + "person a home 0;thing a 0 worth 0;", 4, 51);
        s.districtFault(KIND + "person a home 0;thing a 0 worth 10;", 4, 51);
        s.districtFault(KIND + "person a home 0;thing a 0 worth;", 2, 50);
        s.districtFault(KIND + "person a home 0;thing a 0 worth 1 worth 1;", 2, 53);
    }

    private void firstFault() {
        s.says(12, "FAULTS, the first along the text (of one TOKEN the least kind):");
        s.districtFault("odds 17;arm 60;?", 4, 5);
        s.districtFault("arm 60 odds 17;", 4, 4);
        s.districtFault("odds ?;;", 1, 5);
        s.districtFault("odds 17?", 4, 5);
        s.districtFault("odds 1;odds ?", 5, 7);
        s.districtFault("odds 1;?odds", 1, 7);
        s.districtFault("12345 ;", 1, 0);
        s.districtFault("kind 12345", 1, 5);
        s.districtFault("kind ?", 1, 5);
        s.districtFault("person 12345", 1, 7);
        s.districtFault("person a home 0 reach 0 12345", 1, 24);
        s.districtFault("thing ?", 1, 6);
        s.districtFault("person a home 0;thing a ?", 1, 24);
        s.daysFault(TWO, "wait ?;", 1, 5);
        s.daysFault(TWO, "when ?;", 1, 5);
        s.daysFault(TWO, "lose ? 0;", 1, 5);
        s.daysFault(TWO, "any;".repeat(30) + "?", 1, 120);
        s.daysFault(TWO, "loop 1;loop 1;loop 1;?", 1, 21);
    }

    private void faultPlaces() {
        s.says(12, "2 it can't stand there (the end: the text's length;");
        s.districtFault("odds", 2, 4);
        s.districtFault("odds ", 2, 5);
        s.districtFault("odds 4", 2, 6);
        s.districtFault("odds 4 \n", 2, 8);
        s.districtFault("kind", 2, 4);
        s.districtFault("kind step", 2, 9);
        s.districtFault("kind step 1", 2, 11);
        s.districtFault("kind step 1 spot", 2, 16);
        s.districtFault("kind step 1 spot 1", 2, 18);
        s.districtFault("kind step 1 spot 1 weight", 2, 25);
        s.districtFault("person", 2, 6);
        s.districtFault("person a", 2, 8);
        s.districtFault("person a home", 2, 13);
        s.districtFault("person a home 1", 2, 15);
        s.districtFault("person a home 1 reach", 2, 21);
        s.districtFault("person a home 1 reach 1", 2, 23);
        s.districtFault(KIND + "person a home 1;thing", 2, 40);
        s.districtFault(KIND + "person a home 1;thing a", 2, 42);
        s.districtFault(KIND + "person a home 1;thing a 0", 2, 44);
        s.districtFault(KIND + "person a home 1;thing a 0 worth", 2, 50);
        s.districtFault(filled("odds 4", 900), 2, 900);
        s.districtFault(filled("", 899) + ";", 2, 899);
    }

    private void grammar() {
        s.says(10, "DISTRICT: {PART}.");
        ItchParish x = new ItchParish();
        s.fine("no PART", x, Checks.district(x, ""), 0);
        s.fine("PARTS in any order", x, Checks.district(x, "person a home 1;" + KIND + "arm 3;thing a 0;odds 2;person b home 2;"), 2);
        s.districtFault("odds 1;;", 2, 7);
        s.districtFault("odds 1", 2, 6);
        s.districtFault("4;", 2, 0);
        s.districtFault("a;", 2, 0);
        for (String word : NO_NAMES) {
            boolean begins = word.equals("odds") || word.equals("arm") || word.equals("kind") || word.equals("person") || word.equals("thing");
            s.districtFault(word, 2, begins ? word.length() : 0);
        }
        s.says(10, "PART: odds NUMBER ; or arm NUMBER ; or kind step NUMBER spot NUMBER [weight NUMBER] ; or person NAME home NUMBER [reach {NUMBER}] ;");
        s.districtFault("odds arm 1;", 2, 5);
        s.districtFault("kind spot 1 step 1;", 2, 5);
        s.districtFault("kind step spot 1;", 2, 10);
        s.districtFault("kind step 1 weight 1 spot 1;", 2, 12);
        s.districtFault("kind step 1 spot 1 reach 1;", 2, 19);
        s.districtFault("person home 1;", 2, 7);
        s.districtFault("person a reach 1;", 2, 9);
        s.districtFault("person a home reach 1;", 2, 14);
        s.districtFault("person a home 1 2;", 2, 16);
        s.districtFault("person a home 1 reach <;", 2, 22);
        s.districtFault("person a b home 1;", 2, 9);
        s.says(10, "or thing NAME NUMBER [worth NUMBER] ;");
        s.districtFault("person a home 0;thing 0 a;", 2, 22);
        s.districtFault("person a home 0;thing a worth 1;", 2, 24);
        s.districtFault(KIND + "person a home 0;thing a 0 weight 1;", 2, 45);
        s.districtFault(KIND + "person a home 0;thing a 0 0;", 2, 45);
        s.says(10, "({ } any number of times, [ ] perhaps.)");
        s.fine("reach of none", x, Checks.district(x, "person a home 0 reach;"), 1);
        s.fine("REACH nothing", x, x.person(0, 1), 0);
    }

    private void districtInPlace() {
        ItchParish x = new ItchParish();
        s.says(10, "A DISTRICT that is taken is there in place of that ahead; it is MINUTE 0; there are no DAYS.");
        Checks.district(x, "odds 9;arm 9;" + TWO + "thing a 0;");
        Checks.days(x, "any;");
        x.pass(999);
        x.lose(0, 1, 9);
        x.come(9);
        s.fine("an empty one", x, x.district(0), 0);
        int[] many = {0, 0, 0, 4, 5, 0, 0, 0, 0};
        for (int what = 0; what < many.length; what++) {
            s.fine("many(" + what + ")", x, x.many(what), many[what]);
        }
        s.refused("no DAYS", x, x.live(0), 8);
        s.refused("no DAYS", x, x.mean(0, 1), 8);
        s.refused("no PERSON", x, x.person(0, 0), 2);
        s.refused("no KIND", x, x.kind(0, 0), 2);
        s.refused("no THING", x, x.thing(0, 0), 2);
        Checks.district(x, "person q home 3;");
        s.refused("no NAME of the old one", x, Checks.days(x, "scratch a 0;"), 10);
        s.due("fault(0)", x.fault(0), 3);
        s.fine("a new NAME", x, Checks.days(x, "scratch q 0;"), 1);
        Checks.district(x, "?");
        s.fine("a DISTRICT that is not taken leaves DAYS", x, x.live(0), 1);
    }

    private void daysGrammar() {
        ItchParish x = Checks.with(TWO);
        s.says(11, "DAYS: {STEP}.");
        s.fine("no STEP", x, Checks.days(x, " \n"), 0);
        s.fine("each STEP", x, Checks.days(x, "wait 1;lose a 1;scratch b 7;any;when found 7;any;end;when up 0;end;loop 2;stop;end;stop;"), 10);
        s.says(11, "STEP: wait NUMBER ; or lose NAME NUMBER ; or scratch NAME NUMBER ; or any ; or when TEST ; {STEP} end ; or loop NUMBER ; {STEP} end ; or stop ;");
        String[] cut = {"wait 1", "lose a 1", "scratch b 7", "any", "when found 7", "when up 0", "when minute<0", "loop 2", "stop"};
        for (String step : cut) {
            s.daysFault(TWO, step, 2, step.length());
            s.daysFault(TWO, step + " 1;", 2, step.length() + 1);
        }
        for (String word : NO_NAMES) {
            boolean begins = " wait lose scratch any when loop stop ".contains(" " + word + " ");
            s.daysFault(TWO, word, 2, begins ? word.length() : 0);
        }
        s.daysFault(TWO, ";", 2, 0);
        s.daysFault(TWO, "1;", 2, 0);
        s.daysFault(TWO, "a;", 2, 0);
        s.daysFault(TWO, "any;;", 2, 4);
        s.daysFault(TWO, "wait a;", 2, 5);
        s.daysFault(TWO, "lose 1 a;", 2, 5);
        s.daysFault(TWO, "lose a;", 2, 6);
        s.daysFault(TWO, "scratch a a;", 2, 10);
        s.daysFault(TWO, "loop;", 2, 4);
        s.daysFault(TWO, "loop 1;end 1;", 2, 11);
        s.says(11, "TEST: found NUMBER, or up NUMBER, or minute COMPARES NUMBER.");
        s.daysFault(TWO, "when;", 2, 4);
        s.daysFault(TWO, "when found;", 2, 10);
        s.daysFault(TWO, "when up<1;", 2, 7);
        s.daysFault(TWO, "when minute;", 2, 11);
        s.daysFault(TWO, "when any;", 2, 5);
        s.says(11, "COMPARES: < or > or =");
        s.daysFault(TWO, "when minute 1;", 2, 12);
        s.daysFault(TWO, "when minute;1;", 2, 11);
        s.daysFault(TWO, "when minute<;", 2, 12);
        s.daysFault(TWO, "when minute<>1;", 2, 12);
        s.says(12, "FAULTS: 1, 2 as above (an end without a beginning; the text's end ahead of an end: 2).");
        s.daysFault(TWO, "any:", 1, 3);
        s.daysFault(TWO, "any;\t", 1, 4);
        s.daysFault(TWO, "end;", 2, 0);
        s.daysFault(TWO, "loop 1;end;any;end;", 2, 15);
        s.daysFault(TWO, "loop 1;", 2, 7);
        s.daysFault(TWO, "loop 1;end", 2, 10);
        s.daysFault(TWO, "when up 1;any; \n", 2, 16);
        s.daysFault(TWO, "loop 1;when up 1;end;", 2, 21);
        s.daysFault(TWO, filled("loop 1;", 300), 2, 300);
    }

    private void daysNumbers() {
        ItchParish x = Checks.with(TWO);
        s.says(12, "3 a NAME that is no PERSON. 4 a NUMBER that can't be (no such KIND).");
        s.daysFault(TWO, "lose c 0;", 3, 5);
        s.daysFault(TWO, "lose aa 9;", 3, 5);
        s.daysFault(TWO, "scratch c 9;", 3, 8);
        s.daysFault(TWO, "lose a 2;", 4, 7);
        s.daysFault("person a home 0;", "lose a 0;", 4, 7);
        s.fine("the last KIND", x, Checks.days(x, "lose b 1;"), 1);
        s.says(11, "wait: so many MINUTES (1 to 99);");
        s.daysFault(TWO, "wait 0;", 4, 5);
        s.daysFault(TWO, "wait 100;", 4, 5);
        s.fine("1 and 99", x, Checks.days(x, "wait 1;wait 99;"), 2);
        s.fine("live", x, x.live(0), 2);
        s.fine("100 MINUTES", x, x.many(5), 100);
        s.says(11, "scratch: a PERSON, a THING (0 to 7);");
        s.daysFault(TWO, "scratch a 8;", 4, 10);
        s.fine("0 and 7", x, Checks.days(x, "scratch a 0;scratch a 7;"), 2);
        s.says(11, "found, up: a THING (0 to 7) that there is and that is FOUND, UP now;");
        s.daysFault(TWO, "when found 8;end;", 4, 11);
        s.daysFault(TWO, "when up 8;end;", 4, 8);
        s.fine("0 and 7", x, Checks.days(x, "when found 0;end;when found 7;end;when up 0;end;when up 7;end;"), 4);
        s.says(11, "minute: 0 to 9,999;");
        s.daysFault(TWO, "when minute<10000;end;", 1, 12);
        s.fine("0 and 9999", x, Checks.days(x, "when minute=0;end;when minute=9999;end;"), 2);
        s.says(11, "loop n (1 to 99): as often.");
        s.daysFault(TWO, "loop 0;end;", 4, 5);
        s.daysFault(TWO, "loop 100;end;", 4, 5);
        s.fine("1 and 99", x, Checks.days(x, "loop 1;end;loop 99;end;"), 2);
    }

    private void daysDepth() {
        ItchParish x = Checks.with(TWO);
        s.says(12, "6 a 31st STEP (at its WORD; end is none).");
        s.fine("thirty", x, Checks.days(x, "any;".repeat(30)), 30);
        s.fine("thirty with ends", x, Checks.days(x, "loop 9;end;".repeat(26) + "any;any;any;"), 29);
        s.fine("thirty with an end last", x, Checks.days(x, "any;".repeat(29) + "loop 1;end;"), 30);
        s.daysFault(TWO, "any;".repeat(30) + "any;", 6, 120);
        s.daysFault(TWO, "any;".repeat(30) + " stop", 6, 121);
        s.daysFault(TWO, "any;".repeat(29) + "loop 1;any;end;", 6, 123);
        s.daysFault(TWO, "any;".repeat(30) + "wait 12345;", 6, 120);
        s.says(12, "7 a when, loop within three others (at its WORD).");
        s.fine("three", x, Checks.days(x, "loop 1;when up 1;loop 1;any;end;end;end;"), 4);
        s.fine("three, and three again", x, Checks.days(x, "loop 1;loop 1;loop 1;end;loop 1;end;end;loop 1;end;end;loop 1;loop 1;loop 1;end;end;end;"), 8);
        s.daysFault(TWO, "loop 1;loop 1;loop 1;loop", 7, 21);
        s.daysFault(TWO, "when up 1;when up 1;when up 1;when 12345", 7, 30);
        s.daysFault(TWO, "loop 1;loop 1;loop 1;end;end;loop 1;when up 1;when up 1;", 7, 46);
        s.daysFault(TWO, "any;".repeat(27) + "loop 1;loop 1;loop 1;loop 1;", 6, 129);
    }
}
