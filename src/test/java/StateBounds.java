/** The edges of TRAYS, of what is told and done, of MARKS: promises 1 to 8, 13 to 26, 49, 50 and their terms. */
final class StateBounds {
    private static final int NONE = ItchParish.NONE;
    private static final int MIN = Integer.MIN_VALUE;
    private static final int MAX = Integer.MAX_VALUE;

    // THING 0: of a, on b (far 10) at SPOT 3, UP from 10.   1: of c, on a (far 30) at 5, UP from 30.   2: of b, on b at 4, UP from 0.
    private static final String THREE = "odds 8;arm 6;kind step 1 spot 3 weight 2;kind step 3 spot 3;"
        + "person a home 0 reach 5;person b home 10 reach 3;person c home 30;thing a 0 worth 7;thing c 0;thing b 1;";
    private static final String ONE = "kind step 1 spot 0;person a home 0 reach 0;";

    private final Sentences s;

    StateBounds(Sentences sentences) {
        s = sentences;
    }

    void tell() {
        newObject();
        manyCalls();
        statuses();
        fractions();
        trayRanges();
        cut();
        places();
        pours();
        poursOfEdges();
        many();
        kinds();
        people();
        bearersGoRound();
        things();
        upFromItsMinute();
        farAndHomes();
        losing();
        passing();
        scratching();
        foundOnce();
        teaching();
        moving();
        coming();
        rewriting();
        ruling();
        marks();
        marksKeep();
    }

    private void newObject() {
        ItchParish x = new ItchParish();
        s.says(1, "STATUS 0, the FRACTION 0 by 1.");
        s.due("status()", x.status(), 0);
        s.due("top()", x.top(), 0);
        s.due("bottom()", x.bottom(), 1);
        s.says(1, "TRAYS are MISSING");
        for (int tray = 0; tray < 4; tray++) {
            s.refused("read", x, x.read(tray, 0), 3);
            s.refused("write", x, x.write(tray, 0, 0), 3);
            s.refused("copyHomes", x, x.copyHomes(tray), 3);
            s.refused("laws", x, x.laws(tray, 0), 3);
            s.refused("lawOf", x, x.lawOf(tray, 0, 0), 3);
            s.refused("pour", x, x.pour(tray, 0, tray, 0, 0), 3);
        }
        s.says(1, "a DISTRICT of nobody (ODDS 4, ARM 5), no DAYS, MARKS, an empty tape;");
        int[] many = {0, 0, 0, 4, 5, 0, 0, 0, 0};
        for (int what = 0; what < many.length; what++) {
            s.fine("many(" + what + ")", x, x.many(what), many[what]);
        }
        s.refused("kind(0, 0)", x, x.kind(0, 0), 2);
        s.refused("person(0, 0)", x, x.person(0, 0), 2);
        s.refused("thing(0, 0)", x, x.thing(0, 0), 2);
        s.refused("far(0, 0)", x, x.far(0, 0), 2);
        s.refused("live(0)", x, x.live(0), 8);
        s.refused("mean(0, 1)", x, x.mean(0, 1), 8);
        s.refused("lived(0)", x, x.lived(0), 8);
        s.refused("back()", x, x.back(), 8);
        s.refused("district(1)", x, x.district(1), 5);
        s.due("feed", x.feed(0, 0, 0, 0, 0), 20);
    }

    private void manyCalls() {
        ItchParish x = Checks.with(ONE);
        s.says(1, "An object is used for at most 512 calls after it has been made; what later calls answer is free.");
        for (int call = 5; call <= 510; call++) {
            x.pass(1);
        }
        s.due("the 511th", x.many(5), 506);
        s.due("the 512th", x.pass(1), 0);
        ItchParish y = new ItchParish();
        for (int pair = 1; pair <= 255; pair++) {
            y.mark();
            y.back();
        }
        s.due("the 511th", y.mark(), 1);
        s.due("the 512th", y.back(), 0);
    }

    private void statuses() {
        ItchParish x = Checks.with(THREE);
        s.says(2, "The STATUS of the latest call that has one.");
        x.tray(0, 0, 3);
        x.tray(1, 1, 3);
        x.mark();
        x.mark();
        x.mark();
        s.refused("1", x, x.read(4, 0), 1);
        othersLeave(x, 1);
        s.refused("2", x, x.person(3, 0), 2);
        othersLeave(x, 2);
        s.refused("3", x, x.read(3, 0), 3);
        othersLeave(x, 3);
        s.refused("4", x, x.read(0, 3), 4);
        othersLeave(x, 4);
        s.refused("5", x, x.pass(0), 5);
        othersLeave(x, 5);
        s.refused("6", x, x.tray(0, 0, -1), 6);
        othersLeave(x, 6);
        s.refused("7", x, x.mark(), 7);
        othersLeave(x, 7);
        s.refused("8", x, x.live(0), 8);
        othersLeave(x, 8);
        s.refused("9", x, x.scratch(0, 0), 9);
        othersLeave(x, 9);
        s.refused("10", x, x.district(20), 10);
        othersLeave(x, 10);
        s.refused("11", x, x.pour(0, 0, 1, 0, 0), 11);
        othersLeave(x, 11);
        s.fine("0", x, x.many(0), 2);
        othersLeave(x, 0);
    }

    private void othersLeave(ItchParish x, int status) {
        x.top();
        s.due("top() has none", x.status(), status);
        x.bottom();
        s.due("bottom() has none", x.status(), status);
        x.fault(0);
        x.fault(9);
        s.due("fault() has none", x.status(), status);
        x.feed(0, 0, 0, 0, 0);
        s.due("feed() has none", x.status(), status);
        s.due("status() has none", x.status(), status);
    }

    private void fractions() {
        ItchParish x = Checks.with(THREE);
        s.says(3, "The top of the FRACTION told latest.");
        s.fraction("tongue(1)", x, x.tongue(1), 1, 2);
        s.refused("tongue(13)", x, x.tongue(13), 5);
        s.refused("whose of nobody", x, x.whose(0, 9, 0), 8);
        s.refused("share of none of them", x, x.share(0, 1, 1), 8);
        s.refused("mean without DAYS", x, x.mean(0, 1), 8);
        s.due("top() stays", x.top(), 1);
        s.says(4, "Its bottom, above 0.");
        s.due("bottom() stays", x.bottom(), 2);
        s.says(4, "FRACTIONS are told by top() and bottom() without a common divisor, the bottom above 0; 0 is 0 by 1.");
        s.fraction("0 of 1", x, x.tongue(0), 0, 1);
        x.rule(3, 16);
        s.fraction("1", x, x.tongue(12), 1, 1);
        x.rule(3, 12);
        s.fraction("12 of 16", x, x.tongue(1), 3, 4);
        x.rule(3, 0);
        s.fraction("0 of 16 times 16", x, x.tongue(2), 0, 1);
        s.fraction("20 of 2", x, x.share(0, 3, 0), 10, 1);
        Checks.days(x, "stop;");
        s.fraction("0 of 20", x, x.mean(0, 20), 0, 1);
    }

    private void trayRanges() {
        ItchParish x = new ItchParish();
        s.says(5, "A TRAY is a row of so many numbers (at most 60; 5), all 0 (1; 5; 6).");
        s.fine("60", x, x.tray(0, 3, 60));
        s.fine("the last of 60", x, x.read(0, 59), 0);
        s.refused("behind it", x, x.read(0, 60), 4);
        s.refused("61", x, x.tray(0, 3, 61), 5);
        s.refused("MAX", x, x.tray(0, 3, MAX), 5);
        s.refused("-1", x, x.tray(0, 3, -1), 6);
        s.refused("MIN", x, x.tray(0, 3, MIN), 6);
        s.fine("the old one stays", x, x.read(0, 59), 0);
        s.fine("0", x, x.tray(1, 0, 0));
        s.refused("no place in it", x, x.read(1, 0), 4);
        s.fine("1", x, x.tray(1, 0, 1));
        s.fine("its place", x, x.read(1, 0), 0);
        s.refused("its second", x, x.read(1, 1), 4);
        s.refused("tray -1", x, x.tray(-1, 0, 0), 1);
        s.refused("tray 4", x, x.tray(4, 0, 0), 1);
        s.refused("tray MAX", x, x.tray(MAX, 0, 0), 1);
        s.refused("sort -1", x, x.tray(2, -1, 0), 1);
        s.refused("sort 4", x, x.tray(2, 4, 0), 1);
        s.refused("sort MIN", x, x.tray(2, MIN, 0), 1);
        s.refused("1 ahead of 5", x, x.tray(4, 0, 61), 1);
        s.refused("1 ahead of 6", x, x.tray(2, 4, -1), 1);
        s.refused("a refused TRAY is MISSING still", x, x.read(2, 0), 3);
        s.says(5, "TRAYS, 0 to 3, are MISSING at first, or rows of numbers of 8 bits (sort 0), 16 (1), 32 (2) or 64 (3), with sign;");
        s.fine("tray 3 of sort 3", x, x.tray(3, 3, 2));
        x.write(3, 0, Long.MAX_VALUE);
        x.write(3, 1, -7);
        s.fine("made anew", x, x.tray(3, 2, 2));
        s.fine("all 0", x, x.read(3, 0), 0);
        s.fine("all 0", x, x.read(3, 1), 0);
        x.write(3, 1, 9);
        s.fine("shorter", x, x.tray(3, 2, 1));
        s.fine("longer again", x, x.tray(3, 2, 2));
        s.fine("all 0", x, x.read(3, 1), 0);
    }

    private void cut() {
        ItchParish x = new ItchParish();
        s.says(6, "what is written is cut to these.");
        for (int sort = 0; sort < 4; sort++) {
            x.tray(sort, sort, 1);
        }
        for (int sort = 0; sort < 3; sort++) {
            long most = (1L << (8 << sort) - 1) - 1;
            long[] numbers = {most, most + 1, -most - 1, -most - 2, 2 * most + 1, 2 * most + 2, Long.MAX_VALUE, Long.MIN_VALUE, -1, 0};
            long[] left = {most, -most - 1, -most - 1, most, -1, 0, -1, 0, -1, 0};
            for (int k = 0; k < numbers.length; k++) {
                s.fine("write " + numbers[k], x, x.write(sort, 0, numbers[k]));
                s.fine("read of sort " + sort, x, x.read(sort, 0), left[k]);
            }
        }
        for (long number : new long[] {Long.MAX_VALUE, Long.MIN_VALUE, -1, 1L << 32}) {
            s.fine("write " + number, x, x.write(3, 0, number));
            s.fine("read of sort 3", x, x.read(3, 0), number);
        }
    }

    private void places() {
        ItchParish x = new ItchParish();
        x.tray(0, 3, 3);
        x.tray(3, 0, 1);
        s.says(6, "A number comes to a place of a TRAY (1; 3; 4).");
        s.fine("first", x, x.write(0, 0, 5));
        s.fine("last", x, x.write(0, 2, 7));
        s.refused("place 3", x, x.write(0, 3, 1), 4);
        s.refused("place -1", x, x.write(0, -1, 1), 4);
        s.refused("place MAX", x, x.write(0, MAX, 1), 4);
        s.refused("place MIN", x, x.write(0, MIN, 1), 4);
        s.refused("tray -1", x, x.write(-1, 0, 1), 1);
        s.refused("tray 4", x, x.write(4, -1, 1), 1);
        s.refused("3 ahead of 4", x, x.write(1, -1, 1), 3);
        s.fine("the others stay", x, x.read(0, 1), 0);
        s.fine("another TRAY stays", x, x.read(3, 0), 0);
        s.says(7, "The number in a place of a TRAY; STATUS tells NONE from -1 (1; 3; 4).");
        s.fine("first", x, x.read(0, 0), 5);
        s.fine("last", x, x.read(0, 2), 7);
        s.refused("place 3", x, x.read(0, 3), 4);
        s.refused("place -1", x, x.read(0, -1), 4);
        s.refused("place MAX", x, x.read(0, MAX), 4);
        s.refused("place MIN", x, x.read(0, MIN), 4);
        s.refused("tray -1", x, x.read(-1, 0), 1);
        s.refused("tray 4", x, x.read(4, 9), 1);
        s.refused("3 ahead of 4", x, x.read(2, 9), 3);
        x.write(0, 1, -1);
        s.fine("-1", x, x.read(0, 1), -1);
    }

    private void pours() {
        ItchParish x = new ItchParish();
        x.tray(0, 1, 4);
        x.tray(1, 1, 2);
        x.tray(2, 0, 4);
        s.says(8, "1, 3 (either), 11, 6, 4, asked in this order.");
        s.refused("from -1", x, x.pour(-1, 0, 0, 0, 0), 1);
        s.refused("from 4", x, x.pour(4, 0, 0, 0, 0), 1);
        s.refused("to -1", x, x.pour(0, 0, -1, 0, 0), 1);
        s.refused("to 4", x, x.pour(0, 0, 4, 0, 0), 1);
        s.refused("1 ahead of 3", x, x.pour(3, 0, 4, 0, 0), 1);
        s.refused("1 ahead of 6", x, x.pour(0, 0, 4, 0, -1), 1);
        s.refused("from MISSING", x, x.pour(3, 0, 0, 0, 1), 3);
        s.refused("to MISSING", x, x.pour(0, 0, 3, 0, 1), 3);
        s.refused("3 ahead of 6", x, x.pour(0, 0, 3, 0, -1), 3);
        s.refused("3 ahead of 4", x, x.pour(3, 9, 0, 9, 9), 3);
        s.refused("unlike", x, x.pour(0, 0, 2, 0, 1), 11);
        s.refused("unlike", x, x.pour(2, 0, 0, 0, 1), 11);
        s.refused("11 ahead of 6", x, x.pour(0, 0, 2, 0, -1), 11);
        s.refused("11 ahead of 4", x, x.pour(0, 4, 2, 0, 1), 11);
        s.refused("below 0", x, x.pour(0, 0, 1, 0, -1), 6);
        s.refused("far below 0", x, x.pour(0, 0, 1, 0, MIN), 6);
        s.refused("6 ahead of 4", x, x.pour(0, -1, 1, -1, -1), 6);
        s.refused("i -1", x, x.pour(0, -1, 1, 0, 1), 4);
        s.refused("j -1", x, x.pour(0, 0, 1, -1, 1), 4);
        s.refused("i 4 of 4", x, x.pour(0, 4, 1, 0, 1), 4);
        s.refused("j 2 of 2", x, x.pour(0, 0, 1, 2, 1), 4);
        s.refused("one too many there", x, x.pour(0, 0, 1, 0, 3), 4);
        s.refused("one too many here", x, x.pour(1, 0, 0, 0, 3), 4);
        s.refused("one too many behind i", x, x.pour(0, 3, 1, 0, 2), 4);
        s.refused("one too many behind j", x, x.pour(0, 0, 1, 1, 2), 4);
        s.refused("i and many go round", x, x.pour(0, MAX, 1, 0, MAX), 4);
        s.refused("j and many go round", x, x.pour(0, 0, 1, MAX, MAX), 4);
        s.refused("i 1, many MAX", x, x.pour(0, 1, 1, 1, MAX), 4);
        s.refused("i MIN", x, x.pour(0, MIN, 1, 0, 1), 4);
    }

    private void poursOfEdges() {
        ItchParish x = new ItchParish();
        x.tray(0, 1, 4);
        x.tray(1, 1, 2);
        for (int k = 0; k < 4; k++) {
            x.write(0, k, 10 + k);
        }
        s.says(8, "So many numbers from place i on of a TRAY come to place j on of another one, or the same, as they were:");
        s.fine("to the last", x, x.pour(0, 2, 1, 0, 2));
        s.fine("read", x, x.read(1, 0), 12);
        s.fine("read", x, x.read(1, 1), 13);
        s.fine("none", x, x.pour(0, 0, 1, 0, 0));
        s.fine("none changed", x, x.read(1, 0), 12);
        s.fine("onto itself", x, x.pour(0, 0, 0, 0, 4));
        s.fine("read", x, x.read(0, 3), 13);
        s.fine("behind itself", x, x.pour(0, 0, 0, 1, 3));
        long[] behind = {10, 10, 11, 12};
        for (int k = 0; k < 4; k++) {
            s.fine("as they were " + k, x, x.read(0, k), behind[k]);
        }
        s.fine("ahead of itself", x, x.pour(0, 1, 0, 0, 3));
        long[] ahead = {10, 11, 12, 12};
        for (int k = 0; k < 4; k++) {
            s.fine("as they were " + k, x, x.read(0, k), ahead[k]);
        }
        x.tray(2, 3, 60);
        x.tray(3, 3, 60);
        x.write(2, 0, Long.MIN_VALUE);
        x.write(2, 59, -1);
        s.fine("all 60", x, x.pour(2, 0, 3, 0, 60));
        s.fine("first", x, x.read(3, 0), Long.MIN_VALUE);
        s.fine("last", x, x.read(3, 59), -1);
    }

    private void many() {
        ItchParish x = Checks.with(THREE);
        s.says(13, "KINDS (what 0), PEOPLE (1), THINGS (2); ODDS (3), ARM (4); the MINUTE (5); the sets of THINGS (1 for THING 0 ..) that are UP (6), SCRATCHED (7), FOUND by now (8) (5).");
        s.refused("many(-1)", x, x.many(-1), 5);
        s.refused("many(9)", x, x.many(9), 5);
        s.refused("many(MIN)", x, x.many(MIN), 5);
        s.refused("many(MAX)", x, x.many(MAX), 5);
        int[] due = {2, 3, 3, 8, 6, 0, 4, 0, 0};
        for (int what = 0; what < due.length; what++) {
            s.fine("many(" + what + ")", x, x.many(what), due[what]);
        }
        x.scratch(0, 2);
        s.fine("a can't: none SCRATCHED", x, x.many(7), 0);
        x.pass(10);
        s.fine("scratch", x, x.scratch(1, 0), 20);
        s.fine("UP", x, x.many(6), 4);
        s.fine("SCRATCHED", x, x.many(7), 1);
        s.fine("FOUND at 10", x, x.many(8), 0);
        x.pass(9);
        s.fine("FOUND at 19", x, x.many(8), 0);
        x.pass(1);
        s.fine("FOUND at 20", x, x.many(8), 1);
        x.pass(1);
        s.fine("FOUND at 21", x, x.many(8), 1);
        ItchParish y = Checks.with(ONE + "thing a 0;".repeat(8));
        s.fine("all eight UP", y, y.many(6), 255);
        for (int thing = 0; thing < 8; thing++) {
            y.scratch(0, thing);
        }
        s.fine("none UP", y, y.many(6), 0);
        s.fine("all eight SCRATCHED", y, y.many(7), 255);
        s.fine("all eight FOUND", y, y.many(8), 255);
    }

    private void kinds() {
        ItchParish x = Checks.with(THREE);
        s.says(14, "Of a KIND, what 0: STEP, 1: SPOT, 2: WEIGHT (2; 5).");
        s.fine("kind(0, 0)", x, x.kind(0, 0), 1);
        s.fine("kind(0, 1)", x, x.kind(0, 1), 3);
        s.fine("kind(0, 2)", x, x.kind(0, 2), 2);
        s.fine("kind(1, 2)", x, x.kind(1, 2), 1);
        s.refused("kind(2, 0)", x, x.kind(2, 0), 2);
        s.refused("kind(-1, 0)", x, x.kind(-1, 0), 2);
        s.refused("kind(MAX, 0)", x, x.kind(MAX, 0), 2);
        s.refused("kind(0, 3)", x, x.kind(0, 3), 5);
        s.refused("kind(0, -1)", x, x.kind(0, -1), 5);
        s.refused("kind(0, MIN)", x, x.kind(0, MIN), 5);
        s.refused("2 ahead of 5", x, x.kind(2, 3), 2);
    }

    private void people() {
        ItchParish x = Checks.with(THREE);
        s.says(15, "2: the set of THINGS that are UP with him as their BEARER, 3: the set of all THINGS whose owner he is (2; 5).");
        s.fine("on b", x, x.person(1, 2), 4);
        s.fine("on a", x, x.person(0, 2), 0);
        x.pass(9);
        s.fine("on b at 9", x, x.person(1, 2), 4);
        x.pass(1);
        s.fine("on b at 10", x, x.person(1, 2), 5);
        x.scratch(1, 0);
        s.fine("on b, one SCRATCHED", x, x.person(1, 2), 4);
        s.fine("a's, SCRATCHED ones too", x, x.person(0, 3), 1);
        s.fine("c's", x, x.person(2, 3), 2);
        s.refused("person(3, 0)", x, x.person(3, 0), 2);
        s.refused("person(-1, 0)", x, x.person(-1, 0), 2);
        s.refused("person(MIN, 0)", x, x.person(MIN, 0), 2);
        s.refused("person(0, 4)", x, x.person(0, 4), 5);
        s.refused("person(0, -1)", x, x.person(0, -1), 5);
        s.refused("2 ahead of 5", x, x.person(3, 4), 2);
        s.says(15, "Of a PERSON, what 0: HOME, 1: the set of SPOTS he can REACH (1 for SPOT 0 ..)");
        ItchParish y = Checks.with("person a home 0 reach 0 1 2 3 4 5 6 7 8 9;person b home 59 reach 9;person c home 9;");
        s.fine("all", y, y.person(0, 1), 1023);
        s.fine("9", y, y.person(1, 1), 512);
        s.fine("none", y, y.person(2, 1), 0);
        s.fine("HOME 59", y, y.person(1, 0), 59);
    }

    private void bearersGoRound() {
        ItchParish x = Checks.with("kind step 9 spot 9;kind step 1 spot 0;kind step 7 spot 4;person a home 0;person b home 1;person c home 2;"
            + "person d home 3;person e home 4;person f home 5;person g home 6;thing g 0;thing g 1;thing g 2;thing a 0;thing f 0;thing b 0;");
        s.says(16, "A THING ITCHES on its BEARER: he whose number is its owner's and STEP of its KIND together, the rest by how many PEOPLE there are (the owner himself, perhaps)");
        int[] bearers = {1, 0, 6, 2, 0, 3};
        int[] spots = {5, 6, 0, 9, 4, 0};
        for (int thing = 0; thing < bearers.length; thing++) {
            s.fine("BEARER of " + thing, x, x.thing(thing, 4), bearers[thing]);
        }
        s.says(16, "at a SPOT: that of its KIND and its owner's number together, the rest by 10.");
        for (int thing = 0; thing < spots.length; thing++) {
            s.fine("SPOT of " + thing, x, x.thing(thing, 5), spots[thing]);
        }
        ItchParish y = Checks.with("kind step 9 spot 9;person a home 7;thing a 0;");
        s.fine("alone, on himself", y, y.thing(0, 4), 0);
        s.fine("9 and 0", y, y.thing(0, 5), 9);
        s.fine("UP at once", y, y.many(6), 1);
    }

    private void things() {
        ItchParish x = Checks.with(THREE);
        s.says(16, "Of a THING, what 0: its owner, 1: KIND, 2: WORTH, 3: the MINUTE in which it was LOST, 4: its BEARER, 5: the SPOT, 6: the MINUTE in which it COMES UP");
        int[][] due = {{0, 0, 7, 0, 1, 3, 10}, {2, 0, 1, 0, 0, 5, 30}, {1, 1, 1, 0, 1, 4, 0}};
        for (int thing = 0; thing < 3; thing++) {
            for (int what = 0; what < 7; what++) {
                s.fine("thing(" + thing + ", " + what + ")", x, x.thing(thing, what), due[thing][what]);
            }
        }
        s.says(16, "7: that in which it was SCRATCHED (8: it was not), 8: that in which it is FOUND (8: it was not SCRATCHED)");
        x.pass(10);
        s.refused("thing(0, 7)", x, x.thing(0, 7), 8);
        s.refused("thing(0, 8)", x, x.thing(0, 8), 8);
        s.fine("scratch", x, x.scratch(1, 0), 20);
        s.fine("thing(0, 7)", x, x.thing(0, 7), 10);
        s.fine("thing(0, 8)", x, x.thing(0, 8), 20);
        s.refused("thing(1, 7)", x, x.thing(1, 7), 8);
        ItchParish y = Checks.with(ONE + "thing a 0;");
        y.scratch(0, 0);
        s.fine("SCRATCHED in MINUTE 0", y, y.thing(0, 7), 0);
        s.fine("FOUND in MINUTE 0", y, y.thing(0, 8), 0);
        s.says(16, "9: the set of PEOPLE who could SCRATCH it, if it is UP (2; 5; 8).");
        s.fine("thing(1, 9), not UP: a himself", x, x.thing(1, 9), 1);
        s.fine("thing(2, 9), UP: nobody", x, x.thing(2, 9), 0);
        s.refused("thing(3, 0)", x, x.thing(3, 0), 2);
        s.refused("thing(-1, 0)", x, x.thing(-1, 0), 2);
        s.refused("thing(MAX, 0)", x, x.thing(MAX, 0), 2);
        s.refused("thing(0, 10)", x, x.thing(0, 10), 5);
        s.refused("thing(0, -1)", x, x.thing(0, -1), 5);
        s.refused("thing(0, MIN)", x, x.thing(0, MIN), 5);
        s.refused("2 ahead of 5", x, x.thing(3, 10), 2);
        s.refused("2 ahead of 8", x, x.thing(3, 7), 2);
    }

    private void upFromItsMinute() {
        ItchParish x = Checks.with(THREE);
        s.says(16, "It COMES UP so many MINUTES behind the one in which it was LOST as the BEARER is FAR from the owner (all this by who there is now).");
        s.fine("thing(0, 6)", x, x.thing(0, 6), 10);
        s.fine("thing(1, 6)", x, x.thing(1, 6), 30);
        s.fine("thing(2, 6)", x, x.thing(2, 6), 0);
        s.says(13, "It is UP from that MINUTE on, if it is not SCRATCHED.");
        s.fine("pass(9)", x, x.pass(9), 4);
        s.fine("pass(1)", x, x.pass(1), 5);
        s.fine("pass(19)", x, x.pass(19), 5);
        s.fine("pass(1)", x, x.pass(1), 7);
        s.fine("pass(999)", x, x.pass(999), 7);
        s.fine("scratch", x, x.scratch(1, 0), 1039);
        s.fine("pass(1)", x, x.pass(1), 6);
        s.says(16, "(all this by who there is now)");
        ItchParish y = Checks.with(THREE);
        y.pass(10);
        s.fine("UP", y, y.many(6), 5);
        y.move(0, 21);
        s.fine("FAR 11 now", y, y.thing(0, 6), 11);
        s.fine("FAR 9 now", y, y.thing(1, 6), 9);
        s.fine("one UP no more, one UP now", y, y.many(6), 6);
        y.move(0, 20);
        s.fine("UP again", y, y.many(6), 7);
        s.fine("come", y, y.come(59), 3);
        s.fine("another BEARER", y, y.thing(1, 4), 3);
        s.fine("the owner himself no more", y, y.thing(2, 4), 0);
        s.fine("its SPOT is the same", y, y.thing(1, 5), 5);
        y.rewrite(0, 0, 4);
        s.fine("the owner himself", y, y.thing(0, 4), 0);
    }

    private void farAndHomes() {
        ItchParish x = Checks.with("person a home 0;person b home 59;person c home 59;");
        s.says(17, "FAR is a PERSON from another one by how many places their HOMES are apart.");
        s.says(17, "FAR (2).");
        s.fine("far(0, 1)", x, x.far(0, 1), 59);
        s.fine("far(1, 0)", x, x.far(1, 0), 59);
        s.fine("far(1, 2)", x, x.far(1, 2), 0);
        s.fine("far(0, 0)", x, x.far(0, 0), 0);
        s.refused("far(3, 0)", x, x.far(3, 0), 2);
        s.refused("far(0, 3)", x, x.far(0, 3), 2);
        s.refused("far(-1, 0)", x, x.far(-1, 0), 2);
        s.refused("far(0, -1)", x, x.far(0, -1), 2);
        s.refused("far(MIN, MAX)", x, x.far(MIN, MAX), 2);
        s.says(18, "HOMES of all PEOPLE, by numbers, come to a TRAY: how many (1; 3; 4).");
        x.tray(0, 0, 2);
        x.tray(1, 0, 3);
        x.tray(2, 0, 4);
        x.write(2, 3, -5);
        s.refused("copyHomes(-1)", x, x.copyHomes(-1), 1);
        s.refused("copyHomes(4)", x, x.copyHomes(4), 1);
        s.refused("copyHomes(3)", x, x.copyHomes(3), 3);
        s.refused("one place too few", x, x.copyHomes(0), 4);
        s.fine("nothing came", x, x.read(0, 1), 0);
        s.fine("places enough", x, x.copyHomes(1), 3);
        s.fine("first", x, x.read(1, 0), 0);
        s.fine("last", x, x.read(1, 2), 59);
        s.fine("one place too many", x, x.copyHomes(2), 3);
        s.fine("what stands behind stays", x, x.read(2, 3), -5);
        x.move(0, 58);
        x.move(2, 57);
        s.fine("each HOME at his number", x, x.copyHomes(2), 3);
        for (int person = 0; person < 3; person++) {
            s.fine("HOME " + person, x, x.read(2, person), x.person(person, 0));
        }
        s.fine("the first HOME", x, x.read(2, 0), 58);
        ItchParish nobody = new ItchParish();
        nobody.tray(0, 0, 0);
        s.fine("nobody", nobody, nobody.copyHomes(0), 0);
        s.refused("nobody, MISSING", nobody, nobody.copyHomes(1), 3);
    }

    private void losing() {
        ItchParish x = Checks.with(ONE + "thing a 0;".repeat(6));
        s.says(19, "LOSE: the THING's number (WORTH 1 to 9) (2; 5; 7: a ninth).");
        s.refused("WORTH 0", x, x.lose(0, 0, 0), 5);
        s.refused("WORTH 10", x, x.lose(0, 0, 10), 5);
        s.refused("WORTH -1", x, x.lose(0, 0, -1), 5);
        s.refused("WORTH MAX", x, x.lose(0, 0, MAX), 5);
        s.refused("PERSON 1", x, x.lose(1, 0, 1), 2);
        s.refused("PERSON -1", x, x.lose(-1, 0, 1), 2);
        s.refused("KIND 1", x, x.lose(0, 1, 1), 2);
        s.refused("KIND -1", x, x.lose(0, -1, 1), 2);
        s.refused("2 ahead of 5", x, x.lose(0, 1, 0), 2);
        s.fine("WORTH 1", x, x.lose(0, 0, 1), 6);
        s.fine("worth", x, x.thing(6, 2), 1);
        s.fine("WORTH 9, an eighth", x, x.lose(0, 0, 9), 7);
        s.fine("worth", x, x.thing(7, 2), 9);
        s.refused("a ninth", x, x.lose(0, 0, 1), 7);
        s.refused("2 ahead of 7", x, x.lose(1, 0, 1), 2);
        s.refused("5 ahead of 7", x, x.lose(0, 0, 10), 5);
        s.fine("eight", x, x.many(2), 8);
        x.scratch(0, 0);
        s.refused("a ninth, one SCRATCHED", x, x.lose(0, 0, 1), 7);
        s.says(19, "LOSE: one THING more, LOST in this MINUTE.");
        ItchParish y = Checks.with(ONE + "person b home 59;");
        toLastMinute(y);
        s.fine("in MINUTE 9999", y, y.lose(0, 0, 1), 0);
        s.fine("LOST", y, y.thing(0, 3), 9999);
        s.fine("COMES UP", y, y.thing(0, 6), 10058);
        s.fine("not UP", y, y.many(6), 0);
    }

    private static void toLastMinute(ItchParish x) {
        for (int k = 0; k < 10; k++) {
            x.pass(999);
        }
        x.pass(9);
    }

    private void passing() {
        ItchParish x = Checks.with(THREE);
        s.says(20, "So many MINUTES (1 to 999): the set of THINGS that are UP then (5; 7: above 9,999).");
        s.refused("pass(0)", x, x.pass(0), 5);
        s.refused("pass(-1)", x, x.pass(-1), 5);
        s.refused("pass(1000)", x, x.pass(1000), 5);
        s.refused("pass(MIN)", x, x.pass(MIN), 5);
        s.refused("pass(MAX)", x, x.pass(MAX), 5);
        s.fine("no MINUTE went by", x, x.many(5), 0);
        s.fine("pass(1)", x, x.pass(1), 4);
        s.fine("pass(999)", x, x.pass(999), 7);
        for (int k = 0; k < 8; k++) {
            x.pass(999);
        }
        s.says(20, "A MINUTE goes by (to 9,999).");
        s.fine("8992", x, x.many(5), 8992);
        s.fine("to 9001", x, x.pass(9), 7);
        s.refused("to 10000", x, x.pass(999), 7);
        s.fine("to 9999", x, x.pass(998), 7);
        s.fine("9999", x, x.many(5), 9999);
        s.refused("to 10000", x, x.pass(1), 7);
        s.refused("5 ahead of 7", x, x.pass(1000), 5);
        s.refused("5 ahead of 7", x, x.pass(0), 5);
        s.fine("9999 still", x, x.many(5), 9999);
        s.fine("scratch in the last MINUTE", x, x.scratch(1, 0), 10009);
        s.fine("never FOUND", x, x.many(8), 0);
    }

    private void scratching() {
        ItchParish x = Checks.with("arm 6;kind step 1 spot 3;person a home 0;person b home 10;person c home 16;person d home 17;person e home 4;"
            + "person f home 3;thing a 0;");
        s.says(21, "A PERSON SCRATCHES a THING: the MINUTE in which it is FOUND (2; 9: it is not UP, he can't).");
        s.refused("PERSON 6", x, x.scratch(6, 0), 2);
        s.refused("PERSON -1", x, x.scratch(-1, 0), 2);
        s.refused("THING 1", x, x.scratch(0, 1), 2);
        s.refused("THING -1", x, x.scratch(0, -1), 2);
        s.refused("THING MIN", x, x.scratch(MAX, MIN), 2);
        x.pass(9);
        s.refused("not UP at 9", x, x.scratch(2, 0), 9);
        x.pass(1);
        s.says(21, "It can be SCRATCHED, when it is UP, by its BEARER, if he can REACH that SPOT, or by each other PERSON who is no FARTHER from the BEARER than ARM.");
        s.fine("who could", x, x.thing(0, 9), 4 + 16);
        s.refused("the BEARER can't REACH it, near as he is", x, x.scratch(1, 0), 9);
        s.refused("one place too FAR", x, x.scratch(3, 0), 9);
        s.refused("one place too FAR", x, x.scratch(5, 0), 9);
        s.refused("the owner, too FAR", x, x.scratch(0, 0), 9);
        x.mark();
        s.fine("as FAR as ARM", x, x.scratch(2, 0), 20);
        s.refused("SCRATCHED already", x, x.scratch(4, 0), 9);
        x.back();
        x.mark();
        s.fine("as FAR as ARM on the other side", x, x.scratch(4, 0), 20);
        x.back();
        x.teach(1, 3, true);
        x.rule(4, 0);
        s.fine("the BEARER needs no ARM", x, x.scratch(1, 0), 20);
        ItchParish y = Checks.with("arm 0;kind step 1 spot 0;person a home 5;person b home 5;person c home 6;thing a 0;");
        s.fine("ARM 0, one HOME", y, y.thing(0, 9), 1);
        s.fine("the owner himself", y, y.scratch(0, 0), 0);
        ItchParish z = Checks.with("arm 59;kind step 1 spot 0;person a home 0;person b home 59;thing a 0;");
        s.fine("ARM 59", z, z.thing(0, 9), 1);
        z.rule(4, 58);
        s.fine("ARM 58", z, z.thing(0, 9), 0);
    }

    private void foundOnce() {
        ItchParish x = Checks.with(THREE);
        s.says(21, "The owner has FOUND it so many MINUTES behind the one in which it was SCRATCHED as the BEARER is FAR from him (reckoned once, as it is SCRATCHED).");
        x.pass(12);
        s.fine("scratch", x, x.scratch(1, 0), 22);
        x.move(0, 59);
        s.fine("FOUND as reckoned", x, x.thing(0, 8), 22);
        s.fine("COMES UP by now", x, x.thing(0, 6), 49);
        x.pass(9);
        s.fine("not FOUND at 21", x, x.many(8), 0);
        x.pass(1);
        s.fine("FOUND at 22", x, x.many(8), 1);
        x.come(30);
        x.rewrite(0, 0, 9);
        s.fine("FOUND as reckoned", x, x.thing(0, 8), 22);
        s.fine("FOUND still", x, x.many(8), 1);
        ItchParish y = Checks.with(ONE + "thing a 0;");
        s.fine("on himself: FOUND at once", y, y.scratch(0, 0), 0);
        s.fine("FOUND in the same MINUTE", y, y.many(8), 1);
    }

    private void teaching() {
        ItchParish x = Checks.with("person a home 0 reach 0 9;");
        s.says(22, "A PERSON can REACH a SPOT (0 to 9), or not (2; 9: it is so).");
        s.refused("SPOT 10", x, x.teach(0, 10, true), 2);
        s.refused("SPOT -1", x, x.teach(0, -1, true), 2);
        s.refused("SPOT 32", x, x.teach(0, 32, true), 2);
        s.refused("SPOT MIN", x, x.teach(0, MIN, false), 2);
        s.refused("PERSON 1", x, x.teach(1, 0, true), 2);
        s.refused("PERSON -1", x, x.teach(-1, 0, false), 2);
        s.refused("he can already", x, x.teach(0, 0, true), 9);
        s.refused("he can already", x, x.teach(0, 9, true), 9);
        s.refused("he can't anyway", x, x.teach(0, 5, false), 9);
        s.fine("as it was", x, x.person(0, 1), 513);
        s.fine("not 0", x, x.teach(0, 0, false));
        s.fine("not 9", x, x.teach(0, 9, false));
        s.fine("none", x, x.person(0, 1), 0);
        s.refused("he can't already", x, x.teach(0, 9, false), 9);
        for (int spot = 0; spot < 10; spot++) {
            s.fine("SPOT " + spot, x, x.teach(0, spot, true));
        }
        s.fine("all", x, x.person(0, 1), 1023);
    }

    private void moving() {
        ItchParish x = Checks.with("person a home 7;");
        s.says(23, "A PERSON's HOME from now on (0 to 59): what it was (2; 5).");
        s.refused("HOME 60", x, x.move(0, 60), 5);
        s.refused("HOME -1", x, x.move(0, -1), 5);
        s.refused("HOME MIN", x, x.move(0, MIN), 5);
        s.refused("PERSON 1", x, x.move(1, 0), 2);
        s.refused("PERSON -1", x, x.move(-1, 0), 2);
        s.refused("2 ahead of 5", x, x.move(1, 60), 2);
        s.fine("HOME stays", x, x.person(0, 0), 7);
        s.fine("HOME 59", x, x.move(0, 59), 7);
        s.fine("HOME 0", x, x.move(0, 0), 59);
        s.fine("where it is", x, x.move(0, 0), 0);
    }

    private void coming() {
        ItchParish x = new ItchParish();
        s.says(24, "A PERSON more, with a HOME (0 to 59), who can REACH nothing: his number (5; 7: an eighth).");
        s.refused("HOME 60", x, x.come(60), 5);
        s.refused("HOME -1", x, x.come(-1), 5);
        for (int person = 0; person < 7; person++) {
            s.fine("come", x, x.come(person == 0 ? 59 : 0), person);
            s.fine("REACH", x, x.person(person, 1), 0);
        }
        s.fine("HOME 59", x, x.person(0, 0), 59);
        s.fine("HOME 0", x, x.person(6, 0), 0);
        s.refused("an eighth", x, x.come(0), 7);
        s.refused("5 ahead of 7", x, x.come(60), 5);
        s.fine("seven", x, x.many(1), 7);
        s.fine("REACH stays", x, x.teach(6, 9, true));
        for (String name : new String[] {"a", "b", "z", "aa", "zzzzzzzz"}) {
            s.refused("who came has no NAME " + name, x, Checks.days(x, "scratch " + name + " 0;"), 10);
            s.due("fault(0)", x.fault(0), 3);
        }
        Checks.district(x, "person a home 1 reach 1 2 3;");
        s.fine("one more than a DISTRICT told", x, x.come(5), 1);
        s.fine("REACH", x, x.person(1, 1), 0);
    }

    private void rewriting() {
        ItchParish x = Checks.with("kind step 5 spot 6 weight 7;");
        s.says(25, "STEP (what 0: 1 to 9), SPOT (1: 0 to 9), WEIGHT (2: 1 to 9) of a KIND from now on: what it was (2; 5).");
        s.refused("STEP 0", x, x.rewrite(0, 0, 0), 5);
        s.refused("STEP 10", x, x.rewrite(0, 0, 10), 5);
        s.refused("SPOT -1", x, x.rewrite(0, 1, -1), 5);
        s.refused("SPOT 10", x, x.rewrite(0, 1, 10), 5);
        s.refused("WEIGHT 0", x, x.rewrite(0, 2, 0), 5);
        s.refused("WEIGHT 10", x, x.rewrite(0, 2, 10), 5);
        s.refused("what 3", x, x.rewrite(0, 3, 1), 5);
        s.refused("what -1", x, x.rewrite(0, -1, 1), 5);
        s.refused("KIND 1", x, x.rewrite(1, 0, 1), 2);
        s.refused("KIND -1", x, x.rewrite(-1, 0, 1), 2);
        s.refused("2 ahead of 5", x, x.rewrite(1, 3, 0), 2);
        s.fine("STEP 1", x, x.rewrite(0, 0, 1), 5);
        s.fine("STEP 9", x, x.rewrite(0, 0, 9), 1);
        s.fine("SPOT 0", x, x.rewrite(0, 1, 0), 6);
        s.fine("SPOT 9", x, x.rewrite(0, 1, 9), 0);
        s.fine("WEIGHT 1", x, x.rewrite(0, 2, 1), 7);
        s.fine("WEIGHT 9", x, x.rewrite(0, 2, 9), 1);
        s.fine("what it is", x, x.rewrite(0, 2, 9), 9);
    }

    private void ruling() {
        ItchParish x = new ItchParish();
        s.says(26, "ODDS (what 3: 0 to 16), ARM (4: 0 to 59) from now on (5).");
        s.refused("ODDS 17", x, x.rule(3, 17), 5);
        s.refused("ODDS -1", x, x.rule(3, -1), 5);
        s.refused("ARM 60", x, x.rule(4, 60), 5);
        s.refused("ARM -1", x, x.rule(4, -1), 5);
        s.refused("what 2", x, x.rule(2, 1), 5);
        s.refused("what 5", x, x.rule(5, 1), 5);
        s.refused("what 0", x, x.rule(0, 1), 5);
        s.refused("what MAX", x, x.rule(MAX, 1), 5);
        s.fine("ODDS stay", x, x.many(3), 4);
        s.fine("ARM stays", x, x.many(4), 5);
        s.fine("ODDS 16", x, x.rule(3, 16));
        s.fine("16", x, x.many(3), 16);
        s.fine("ODDS 0", x, x.rule(3, 0));
        s.fine("0", x, x.many(3), 0);
        s.fine("ARM 59", x, x.rule(4, 59));
        s.fine("59", x, x.many(4), 59);
        s.fine("ARM 0", x, x.rule(4, 0));
        s.fine("0", x, x.many(4), 0);
        s.fine("ODDS as they are", x, x.rule(3, 0));
    }

    private void marks() {
        ItchParish x = new ItchParish();
        s.says(50, "All is taken back to the latest MARK: how many there are left (8).");
        s.refused("none", x, x.back(), 8);
        s.says(49, "A MARK more: how many there are (7).");
        s.says(49, "MARKS, at most 3:");
        s.fine("first", x, x.mark(), 1);
        s.fine("second", x, x.mark(), 2);
        s.fine("third", x, x.mark(), 3);
        s.refused("fourth", x, x.mark(), 7);
        s.fine("back", x, x.back(), 2);
        s.fine("third again", x, x.mark(), 3);
        s.refused("fourth", x, x.mark(), 7);
        s.says(50, "All is taken back to the latest MARK: how many there are left (8).");
        s.fine("back", x, x.back(), 2);
        s.fine("back", x, x.back(), 1);
        s.fine("back", x, x.back(), 0);
        s.refused("none left", x, x.back(), 8);
    }

    private void marksKeep() {
        ItchParish x = Checks.with(THREE);
        s.says(50, "the DISTRICT with all that became of it, the DAYS are kept as they are; all is taken back to the latest MARK, which is gone then.");
        x.mark();
        Checks.days(x, "wait 5;");
        x.pass(10);
        x.scratch(1, 0);
        x.lose(2, 1, 9);
        x.teach(0, 5, false);
        x.move(1, 59);
        x.rewrite(0, 0, 9);
        x.rule(3, 0);
        x.rule(4, 59);
        x.come(9);
        x.mark();
        Checks.district(x, "person q home 9;");
        Checks.days(x, "stop;stop;");
        x.mark();
        s.refused("a fourth", x, x.mark(), 7);
        x.district(0);
        s.fine("to the third", x, x.back(), 2);
        s.fine("q", x, x.person(0, 0), 9);
        s.fine("two STEPS, one come to", x, x.live(0), 1);
        s.fine("to the second", x, x.back(), 1);
        int[] second = {2, 4, 4, 0, 59, 10};
        for (int what = 0; what < second.length; what++) {
            s.fine("many(" + what + ")", x, x.many(what), second[what]);
        }
        s.fine("SCRATCHED", x, x.many(7), 1);
        s.fine("FOUND at", x, x.thing(0, 8), 20);
        s.fine("WORTH of the new one", x, x.thing(3, 2), 9);
        s.fine("REACH", x, x.person(0, 1), 0);
        s.fine("HOME", x, x.person(1, 0), 59);
        s.fine("STEP", x, x.kind(0, 0), 9);
        s.fine("NAMES", x, Checks.days(x, "scratch c 0;wait 7;"), 2);
        s.fine("to the first", x, x.back(), 0);
        int[] first = {2, 3, 3, 8, 6, 0, 4, 0, 0};
        for (int what = 0; what < first.length; what++) {
            s.fine("many(" + what + ")", x, x.many(what), first[what]);
        }
        s.refused("no DAYS then", x, x.live(0), 8);
        s.refused("not SCRATCHED then", x, x.thing(0, 7), 8);
        s.fine("REACH", x, x.person(0, 1), 32);
        s.fine("HOME", x, x.person(1, 0), 10);
        s.fine("STEP", x, x.kind(0, 0), 1);
        s.refused("the MARK is gone", x, x.back(), 8);
    }
}
