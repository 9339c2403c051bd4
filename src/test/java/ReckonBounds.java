/** The edges of what is reckoned: promises 27 to 45 and their terms. */
final class ReckonBounds {
    private static final int MIN = Integer.MIN_VALUE;
    private static final int MAX = Integer.MAX_VALUE;
    private static final String SEVEN = "person a home 5;person b home 5;person c home 5;person d home 5;person e home 5;person f home 5;"
        + "person g home 5;";
    private static final String NEXT = "arm 59;kind step 1 spot 0;";

    // All UP at once. THING 0 (5) by a, c; 1 (3) by a, b; 2 (9) by b, c.
    private static final String GAME = NEXT + "person a home 5;person b home 5;person c home 5;thing a 0 worth 5;thing b 0 worth 3;thing c 0 worth 9;";

    private final Sentences s;

    ReckonBounds(Sentences sentences) {
        s = sentences;
    }

    void tell() {
        soonest();
        soonestLate();
        rounds();
        roundsChoose();
        needs();
        rings();
        endings();
        couples();
        whose();
        lawsOfEdges();
        lawsFit();
        lawNumbers();
        hands();
        ways();
        signs();
        walks();
        shares();
        games();
        gamesNow();
        moves();
        tongues();
    }

    private void soonest() {
        ItchParish x = Checks.with("arm 3;kind step 1 spot 0;kind step 2 spot 5;person a home 0 reach 6;person b home 10;person c home 13;"
            + "thing a 0;thing b 1;thing c 1;");
        // THING 0: on b from 10, by c.   1: on a at 6 from 10, by a.   2: on b from 3, by c.
        s.says(27, "SOONEST (2; 8: nobody can).");
        s.refused("THING 3", x, x.soonest(3), 2);
        s.refused("THING -1", x, x.soonest(-1), 2);
        s.refused("THING MAX", x, x.soonest(MAX), 2);
        s.says(27, "SOONEST of a THING: the MINUTE in which it is FOUND, if it is SCRATCHED as soon as can be");
        s.fine("ahead of UP", x, x.soonest(0), 20);
        s.fine("by its BEARER", x, x.soonest(1), 20);
        s.fine("another", x, x.soonest(2), 6);
        x.pass(10);
        s.fine("UP in this MINUTE", x, x.soonest(0), 20);
        x.pass(1);
        s.fine("UP since a MINUTE", x, x.soonest(0), 21);
        s.says(27, "(it is FOUND when it is FOUND, if it is SCRATCHED already); there is none, if nobody can.");
        x.mark();
        x.scratch(2, 0);
        x.pass(90);
        x.rule(4, 0);
        x.move(0, 59);
        s.fine("SCRATCHED already", x, x.soonest(0), 21);
        x.back();
        x.rule(4, 2);
        s.refused("nobody is near enough", x, x.soonest(0), 8);
        s.fine("its BEARER can still", x, x.soonest(1), 21);
        x.teach(0, 6, false);
        s.refused("nor can its BEARER", x, x.soonest(1), 8);
        s.refused("2 ahead of 8", x, x.soonest(3), 2);
        x.teach(1, 0, true);
        s.fine("its BEARER now", x, x.soonest(0), 21);
        ItchParish y = Checks.with("kind step 1 spot 9;person a home 0 reach 9;thing a 0;");
        s.fine("on himself: at once", y, y.soonest(0), 0);
    }

    private void soonestLate() {
        ItchParish x = Checks.with("arm 59;kind step 1 spot 0;person a home 0;person b home 59;thing a 0;");
        for (int k = 0; k < 11; k++) {
            x.pass(k < 10 ? 999 : 9);
        }
        s.says(27, "SOONEST of a THING: the MINUTE in which it is FOUND, if it is SCRATCHED as soon as can be");
        s.fine("in the last MINUTE", x, x.soonest(0), 10058);
        s.fine("as scratch says", x, x.scratch(0, 0), 10058);
        s.fine("FOUND when it is FOUND", x, x.soonest(0), 10058);
    }

    private void rounds() {
        s.says(28, "ROUND: how many.");
        ItchParish x = new ItchParish();
        s.fine("nobody", x, x.round(), 0);
        ItchParish all = Checks.with(NEXT + SEVEN + "thing a 0;thing b 0;thing c 0;thing d 0;thing e 0;thing f 0;thing g 0;thing a 0;");
        s.fine("seven of eight", all, all.round(), 7);
        int[] workers = {0, 1, 2, 3, 4, 5, 6};
        s.says(29, "WORKS: who SCRATCHES a THING (2; 8: nobody).");
        // Each but the BEARER (the next of the owner) can: a for THING 0, then b, c .. each the least who is left.
        for (int thing = 0; thing < 7; thing++) {
            s.fine("works(" + thing + ")", all, all.works(thing), workers[thing]);
        }
        s.refused("works(7): all are at work", all, all.works(7), 8);
        s.refused("works(8)", all, all.works(8), 2);
        s.refused("works(-1)", all, all.works(-1), 2);
        s.refused("works(MIN)", all, all.works(MIN), 2);
        s.fine("nothing is done", all, all.many(7), 0);
        s.says(28, "ROUND: PEOPLE SCRATCH THINGS that are UP now (who can, by what there is now), each PERSON at most one, each THING by at most one, so that the most are SCRATCHED;");
        ItchParish six = Checks.with(NEXT + SEVEN + "thing a 0;".repeat(8));
        s.fine("the BEARER of all can't", six, six.round(), 6);
        int[] others = {0, 2, 3, 4, 5, 6};
        for (int thing = 0; thing < 6; thing++) {
            s.fine("works(" + thing + ")", six, six.works(thing), others[thing]);
        }
        s.refused("works(6)", six, six.works(6), 8);
        six.teach(1, 0, true);
        s.fine("the BEARER can", six, six.round(), 7);
        s.fine("works(1)", six, six.works(1), 1);
        s.fine("works(6)", six, six.works(6), 6);
        s.refused("works(7)", six, six.works(7), 8);
        six.scratch(1, 0);
        s.refused("SCRATCHED ones are none", six, six.works(0), 8);
        s.fine("works(1)", six, six.works(1), 0);
        s.fine("seven are left", six, six.round(), 7);
        ItchParish late = Checks.with("arm 59;kind step 1 spot 0;person a home 0;person b home 1;thing a 0;");
        s.fine("not UP yet", late, late.round(), 0);
        s.refused("not UP yet", late, late.works(0), 8);
        late.pass(1);
        s.fine("UP now", late, late.round(), 1);
        late.rule(4, 0);
        s.fine("who can, by what there is now", late, late.round(), 0);
    }

    private void roundsChoose() {
        s.says(29, "WORKS: of several ways that by THINGS, one by one, in which each is SCRATCHED by the one of the least number (by nobody comes behind all).");
        String two = "arm 0;kind step 1 spot 0;kind step 1 spot 1;person a home 0;person b home 0 reach 0;";
        // THING of a on b: SPOT 0 by a and b, SPOT 1 by a alone.
        ItchParish x = Checks.with(two + "thing a 0;thing a 1;");
        s.fine("the most", x, x.round(), 2);
        s.fine("the least leaves room", x, x.works(0), 1);
        s.fine("works(1)", x, x.works(1), 0);
        ItchParish y = Checks.with(two + "thing a 1;thing a 1;thing a 0;");
        s.fine("two", y, y.round(), 2);
        s.fine("the first THING is SCRATCHED, the second not", y, y.works(0), 0);
        s.refused("by nobody", y, y.works(1), 8);
        s.fine("works(2)", y, y.works(2), 1);
        ItchParish z = Checks.with(two + "thing a 0;thing a 0;");
        s.fine("of two alike the least first", z, z.works(0), 0);
        s.fine("then the other", z, z.works(1), 1);
        ItchParish one = Checks.with(NEXT + "person a home 0 reach 0;thing a 0;thing a 0;");
        s.fine("one PERSON, one THING", one, one.round(), 1);
        s.fine("the first", one, one.works(0), 0);
        s.refused("not the second", one, one.works(1), 8);
    }

    private void needs() {
        ItchParish x = Checks.with("kind step 1 spot 0;kind step 9 spot 0;" + SEVEN + "thing a 0;thing a 1;thing a 0;thing g 0;");
        s.says(30, "The set of PEOPLE (1 for PERSON 0 ..) whom a PERSON NEEDS (2).");
        s.fine("two", x, x.needs(0), 2 + 4);
        s.fine("round the corner", x, x.needs(6), 1);
        s.fine("none", x, x.needs(1), 0);
        s.refused("PERSON 7", x, x.needs(7), 2);
        s.refused("PERSON -1", x, x.needs(-1), 2);
        s.refused("PERSON MAX", x, x.needs(MAX), 2);
        s.says(30, "NEED: the owner of a THING that is not SCRATCHED NEEDS its BEARER.");
        ItchParish one = Checks.with("kind step 1 spot 0;" + SEVEN + "thing a 0;");
        s.fine("the first THING alone", one, one.needs(0), 2);
        x.scratch(0, 0);
        s.fine("another one like it is left", x, x.needs(0), 6);
        x.scratch(0, 2);
        s.fine("none like it", x, x.needs(0), 4);
        x.pass(999);
        s.fine("not SCRATCHED, UP or not", x, x.needs(6), 1);
        x.rewrite(0, 0, 7);
        s.fine("himself", x, x.needs(6), 64);
    }

    private static String needing(int people) {
        StringBuilder text = new StringBuilder(NEXT + SEVEN.substring(0, 16 * people));
        for (int person = 0; person < people; person++) {
            text.append("thing ").append((char) ('a' + person)).append(" 0;");
        }
        return text.toString();
    }

    private void rings() {
        s.says(31, "The shortest RING's length (8: there is none).");
        ItchParish nobody = new ItchParish();
        s.refused("nobody", nobody, nobody.ring(), 8);
        s.says(31, "RING: PEOPLE who NEED each the next one, the last one the first one (one who NEEDS himself, too); the shortest one's length.");
        for (int people = 1; people <= 7; people++) {
            String text = needing(people);
            ItchParish x = Checks.with(text);
            s.fine("of " + people, x, x.ring(), people);
            ItchParish y = Checks.with(text.substring(0, text.length() - 10));
            s.refused("one short of " + people, y, y.ring(), 8);
        }
        ItchParish z = Checks.with(needing(7));
        z.rewrite(0, 0, 9);
        s.fine("by two and two round seven", z, z.ring(), 7);
        z.rewrite(0, 0, 7);
        s.fine("each himself", z, z.ring(), 1);
        z.rewrite(0, 0, 1);
        z.teach(1, 0, true);
        z.scratch(1, 0);
        s.refused("one SCRATCHED", z, z.ring(), 8);
        ItchParish two = Checks.with("kind step 1 spot 0;kind step 2 spot 0;" + SEVEN.substring(0, 48) + "thing a 0;thing b 0;thing c 0;thing b 1;");
        s.fine("the shortest of 3 and 2", two, two.ring(), 2);
    }

    private void endings() {
        s.says(32, "ENDING: how many.");
        ItchParish nobody = new ItchParish();
        s.fine("nobody", nobody, nobody.ending(), 0);
        s.says(33, "ENDING: the set.");
        s.fine("nobody", nobody, nobody.endingSet(), 0);
        s.says(33, "ENDING: the fewest THINGS, not SCRATCHED, without which there is no RING; of several sets the least as a number (1 for THING 0 ..).");
        ItchParish none = Checks.with(needing(7).substring(0, needing(7).length() - 10));
        s.fine("no RING", none, none.ending(), 0);
        s.fine("no RING", none, none.endingSet(), 0);
        ItchParish seven = Checks.with(needing(7));
        s.fine("one of seven", seven, seven.ending(), 1);
        s.fine("the first", seven, seven.endingSet(), 1);
        seven.scratch(0, 0);
        s.fine("not SCRATCHED", seven, seven.ending(), 0);
        s.fine("not SCRATCHED", seven, seven.endingSet(), 0);
        ItchParish all = Checks.with(NEXT + "person a home 0 reach 0;" + "thing a 0;".repeat(8));
        s.fine("all eight", all, all.ending(), 8);
        s.fine("all eight", all, all.endingSet(), 255);
        all.scratch(0, 0);
        s.fine("the seven left", all, all.ending(), 7);
        s.fine("the seven left", all, all.endingSet(), 254);
        ItchParish fewest = Checks.with(NEXT + SEVEN.substring(0, 32) + "thing a 0;thing a 0;thing b 0;");
        s.fine("fewest ahead of least", fewest, fewest.ending(), 1);
        s.fine("4, not 3", fewest, fewest.endingSet(), 4);
        ItchParish two = Checks.with("kind step 1 spot 0;kind step 3 spot 0;" + SEVEN.substring(0, 64) + "thing a 0;thing b 1;thing c 0;thing d 1;");
        s.fine("one of each of two RINGS", two, two.ending(), 2);
        s.fine("5 of 5, 6, 9, 10", two, two.endingSet(), 5);
    }

    private void couples() {
        s.says(34, "WHOSE: of an ITCH on a PERSON at a SPOT: all owners and KINDS by which a THING ITCHES there: how many couples;");
        s.says(34, "WHOSE: how many couples (2).");
        ItchParish x = Checks.with("kind step 1 spot 9;".repeat(5) + SEVEN);
        s.fine("five KINDS of g, both round", x, x.couples(0, 5), 5);
        s.fine("five KINDS of a", x, x.couples(1, 9), 5);
        s.fine("on b at another SPOT", x, x.couples(1, 0), 0);
        s.fine("SPOT 9 on a", x, x.couples(0, 9), 0);
        s.refused("PERSON 7", x, x.couples(7, 0), 2);
        s.refused("PERSON -1", x, x.couples(-1, 0), 2);
        s.refused("SPOT 10", x, x.couples(0, 10), 2);
        s.refused("SPOT -1", x, x.couples(0, -1), 2);
        s.refused("SPOT MIN", x, x.couples(0, MIN), 2);
        ItchParish none = Checks.with("person a home 0;");
        s.fine("no KINDS", none, none.couples(0, 0), 0);
        ItchParish alone = Checks.with("kind step 3 spot 4;kind step 8 spot 4;person a home 0;");
        s.fine("his own", alone, alone.couples(0, 4), 2);
    }

    private void whose() {
        s.says(35, "The FRACTION is the odds that an ITCH on a PERSON at a SPOT is an owner's (2; 8: it can't be anybody's).");
        // On c at 2: a's by the second KIND, b's by the first and the third.
        ItchParish x = Checks.with("kind step 1 spot 1 weight 9;kind step 2 spot 2 weight 4;kind step 1 spot 1 weight 3;" + SEVEN.substring(0, 64));
        s.fraction("a's", x, x.whose(2, 2, 0), 1, 4);
        s.fraction("b's", x, x.whose(2, 2, 1), 3, 4);
        s.fraction("not c's", x, x.whose(2, 2, 2), 0, 1);
        s.fraction("a's alone", x, x.whose(1, 1, 0), 1, 1);
        s.refused("nobody's", x, x.whose(2, 3, 0), 8);
        s.due("the FRACTION stays", x.top(), 1);
        s.refused("PERSON 4", x, x.whose(4, 2, 0), 2);
        s.refused("PERSON -1", x, x.whose(-1, 2, 0), 2);
        s.refused("SPOT 10", x, x.whose(2, 10, 0), 2);
        s.refused("SPOT -1", x, x.whose(2, -1, 0), 2);
        s.refused("owner 4", x, x.whose(2, 2, 4), 2);
        s.refused("owner -1", x, x.whose(2, 2, -1), 2);
        s.refused("2 ahead of 8", x, x.whose(2, 3, 4), 2);
        s.says(35, "the odds that a PERSON is the owner: the WEIGHTS of his KINDS of these by those of all.");
        x.rewrite(0, 2, 1);
        s.fraction("4 of 8", x, x.whose(2, 2, 1), 1, 2);
        x.rewrite(1, 2, 9);
        s.fraction("4 of 13", x, x.whose(2, 2, 1), 4, 13);
        ItchParish none = Checks.with("person a home 0;");
        s.refused("no KINDS", none, none.whose(0, 0, 0), 8);
    }

    private void lawsOfEdges() {
        ItchParish x = Checks.with(SEVEN);
        s.says(36, "LAW: how many couples (1; 3; 4; 5).");
        s.refused("tray 4", x, x.laws(4, 0), 1);
        s.refused("tray -1", x, x.laws(-1, -1), 1);
        s.refused("3 ahead of 4", x, x.laws(0, 1), 3);
        s.refused("3 ahead of 5", x, x.laws(0, -1), 3);
        x.tray(0, 0, 60);
        x.tray(1, 0, 45);
        x.tray(2, 0, 44);
        x.tray(3, 0, 0);
        s.says(36, "LAW of a TRAY: by threes an owner, a BEARER, a SPOT, the first n (0 to 15) threes:");
        s.fine("n 0 of 60", x, x.laws(0, 0), 90);
        s.fine("n 0 of none", x, x.laws(3, 0), 90);
        s.refused("n 1 of none", x, x.laws(3, 1), 4);
        s.fine("n 15 of 60", x, x.laws(0, 15), 1);
        s.fine("n 15 of 45", x, x.laws(1, 15), 1);
        s.refused("n 15 of 44", x, x.laws(2, 15), 4);
        s.fine("n 14 of 44", x, x.laws(2, 14), 1);
        s.refused("n 16 of 60", x, x.laws(0, 16), 5);
        s.refused("n 20 of 60", x, x.laws(0, 20), 5);
        s.refused("n 16 of 45: 4 ahead of 5", x, x.laws(1, 16), 4);
        s.refused("n 21 of 60: 4 ahead of 5", x, x.laws(0, 21), 4);
        s.refused("n -1", x, x.laws(0, -1), 5);
        s.refused("n -1 of none", x, x.laws(3, -1), 5);
        s.refused("n MIN", x, x.laws(0, MIN), 5);
        s.refused("n MAX", x, x.laws(0, MAX), 4);
        s.says(37, "LAW: the STEP (what 0), the SPOT (1) of the first (1; 3; 4; 5; 8: none fits).");
        s.refused("tray 4", x, x.lawOf(4, 0, 0), 1);
        s.refused("n 15 of 44", x, x.lawOf(2, 15, 0), 4);
        s.refused("4 ahead of 5", x, x.lawOf(2, 15, 2), 4);
        s.refused("n 16", x, x.lawOf(0, 16, 0), 5);
        s.refused("n -1", x, x.lawOf(0, -1, 0), 5);
        s.refused("what 2", x, x.lawOf(0, 0, 2), 5);
        s.refused("what -1", x, x.lawOf(0, 0, -1), 5);
        s.fine("STEP of the first of all", x, x.lawOf(0, 0, 0), 1);
        s.fine("SPOT of the first of all", x, x.lawOf(0, 0, 1), 0);
        s.fine("a on himself: STEP", x, x.lawOf(0, 15, 0), 7);
        s.fine("a on himself: SPOT", x, x.lawOf(0, 15, 1), 0);
        x.write(0, 2, 1);
        s.refused("5 ahead of 8", x, x.lawOf(0, 15, 2), 5);
        s.refused("none fits", x, x.lawOf(0, 15, 0), 8);
        s.fine("none fits", x, x.laws(0, 15), 0);
        s.fine("one alone fits", x, x.lawOf(0, 1, 1), 1);
    }

    private static void three(ItchParish x, int k, long owner, long bearer, long spot) {
        x.write(0, 3 * k, owner);
        x.write(0, 3 * k + 1, bearer);
        x.write(0, 3 * k + 2, spot);
    }

    private void lawsFit() {
        ItchParish x = Checks.with(SEVEN);
        x.tray(0, 0, 6);
        s.says(37, "how many couples of a STEP (1 to 9) and a SPOT (0 to 9) are so for all threes; of these the first by STEPS, then SPOTS.");
        three(x, 0, 0, 1, 9);
        s.fine("STEPS 1, 8", x, x.laws(0, 1), 2);
        s.fine("STEP", x, x.lawOf(0, 1, 0), 1);
        s.fine("SPOT", x, x.lawOf(0, 1, 1), 9);
        three(x, 0, 6, 5, 5);
        s.fine("STEP 6, both round", x, x.laws(0, 1), 1);
        s.fine("STEP", x, x.lawOf(0, 1, 0), 6);
        s.fine("SPOT", x, x.lawOf(0, 1, 1), 9);
        three(x, 0, 0, 2, 0);
        s.fine("STEPS 2, 9", x, x.laws(0, 1), 2);
        three(x, 0, 0, 0, 0);
        s.fine("STEP 7, not 0", x, x.laws(0, 1), 1);
        three(x, 1, 5, 5, 5);
        s.fine("for all threes", x, x.laws(0, 2), 1);
        three(x, 1, 5, 6, 5);
        s.fine("not for all", x, x.laws(0, 2), 0);
        s.refused("not for all", x, x.lawOf(0, 2, 0), 8);
        three(x, 0, 0, 1, 9);
        three(x, 1, 5, 6, 4);
        s.fine("two threes, SPOT 9 round", x, x.laws(0, 2), 2);
        s.fine("STEP", x, x.lawOf(0, 2, 0), 1);
        s.fine("SPOT", x, x.lawOf(0, 2, 1), 9);
        three(x, 1, 5, 6, 5);
        s.fine("SPOTS unlike", x, x.laws(0, 2), 0);
        three(x, 1, 4, 6, 3);
        s.fine("STEPS unlike", x, x.laws(0, 2), 0);
        ItchParish alone = Checks.with("person a home 0;");
        alone.tray(0, 0, 3);
        three(alone, 0, 0, 0, 3);
        s.fine("each STEP", alone, alone.laws(0, 1), 9);
        s.fine("the first", alone, alone.lawOf(0, 1, 0), 1);
        s.fine("its SPOT", alone, alone.lawOf(0, 1, 1), 3);
    }

    private void lawNumbers() {
        ItchParish x = Checks.with(SEVEN);
        x.tray(0, 3, 6);
        s.says(36, "5 a number that can't be (a set with a THING that there is not, a number in a TRAY, too).");
        three(x, 0, 6, 6, 9);
        s.fine("the most", x, x.laws(0, 1), 1);
        long[] people = {7, -1, 256, 1L << 32, Long.MAX_VALUE, Long.MIN_VALUE};
        long[] spots = {10, -1, 256, 1L << 32, Long.MAX_VALUE, Long.MIN_VALUE};
        for (int k = 0; k < people.length; k++) {
            three(x, 1, people[k], 0, 0);
            s.refused("owner " + people[k], x, x.laws(0, 2), 5);
            s.refused("owner " + people[k], x, x.lawOf(0, 2, 0), 5);
            s.fine("not among the first", x, x.laws(0, 1), 1);
            three(x, 1, 0, people[k], 0);
            s.refused("BEARER " + people[k], x, x.laws(0, 2), 5);
            three(x, 1, 0, 0, spots[k]);
            s.refused("SPOT " + spots[k], x, x.laws(0, 2), 5);
            s.refused("5 ahead of 8", x, x.lawOf(0, 2, 0), 5);
        }
        ItchParish nobody = new ItchParish();
        nobody.tray(0, 0, 3);
        s.refused("nobody to own", nobody, nobody.laws(0, 1), 5);
        s.refused("a set", x, x.walk(0, 1), 5);
    }

    private void hands() {
        ItchParish x = Checks.with(NEXT + SEVEN);
        s.says(38, "HANDS: a word goes from a PERSON to each one on whom a THING of his would ITCH, of some KIND: the fewest such steps from one to another one;");
        for (int other = 0; other < 7; other++) {
            s.fine("hands(0, " + other + ")", x, x.hands(0, other), other);
        }
        s.fine("hands(6, 0), round", x, x.hands(6, 0), 1);
        s.fine("hands(6, 5), round", x, x.hands(6, 5), 6);
        s.fine("hands(6, 6)", x, x.hands(6, 6), 0);
        s.says(38, "HANDS (2; 8: by none).");
        s.refused("hands(7, 0)", x, x.hands(7, 0), 2);
        s.refused("hands(0, 7)", x, x.hands(0, 7), 2);
        s.refused("hands(-1, 0)", x, x.hands(-1, 0), 2);
        s.refused("hands(0, -1)", x, x.hands(0, -1), 2);
        s.refused("hands(MIN, MIN)", x, x.hands(MIN, MIN), 2);
        x.rewrite(0, 0, 7);
        s.refused("to himself alone", x, x.hands(0, 1), 8);
        s.fine("to himself", x, x.hands(1, 1), 0);
        ItchParish none = Checks.with("person a home 0;person b home 0;");
        s.refused("no KINDS", none, none.hands(0, 1), 8);
        s.fine("himself", none, none.hands(1, 1), 0);
    }

    private void ways() {
        ItchParish x = Checks.with(NEXT + SEVEN);
        s.says(39, "WAY: the k-th PERSON, from 0 on (both ends are on it) (2; 8: by none, no such place).");
        for (int k = 0; k < 7; k++) {
            s.fine("way(0, 6, " + k + ")", x, x.way(0, 6, k), k);
        }
        s.refused("k 7", x, x.way(0, 6, 7), 8);
        s.refused("k -1", x, x.way(0, 6, -1), 8);
        s.refused("k MAX", x, x.way(0, 6, MAX), 8);
        s.refused("k MIN", x, x.way(0, 6, MIN), 8);
        s.fine("himself", x, x.way(4, 4, 0), 4);
        s.refused("himself, k 1", x, x.way(4, 4, 1), 8);
        s.refused("way(7, 0, 0)", x, x.way(7, 0, 0), 2);
        s.refused("way(0, -1, 0)", x, x.way(0, -1, 0), 2);
        s.refused("2 ahead of 8", x, x.way(0, 7, -1), 2);
        x.rewrite(0, 0, 7);
        s.refused("by none", x, x.way(0, 1, 0), 8);
        s.says(39, "WAY: the PEOPLE on it, of several the first by PEOPLE, one by one.");
        ItchParish y = Checks.with("kind step 2 spot 0;kind step 1 spot 0;" + SEVEN);
        s.fine("0, 1 or 2, 3", y, y.way(0, 3, 1), 1);
        s.fine("to 5: 0, 1, 3, 5", y, y.way(0, 5, 1), 1);
        s.fine("to 5", y, y.way(0, 5, 2), 3);
        s.fine("to 6: 0, 2, 4, 6 alone", y, y.way(0, 6, 1), 2);
        ItchParish z = Checks.with("kind step 6 spot 0;kind step 5 spot 0;" + SEVEN);
        s.fine("3, 1 or 2, 0", z, z.way(3, 0, 1), 1);
        s.fine("its end", z, z.way(3, 0, 2), 0);
        s.refused("behind its end", z, z.way(3, 0, 3), 8);
    }

    private void signs() {
        s.says(40, "SIGNS of one to another one: at how many SPOTS of the other one a THING of the one would ITCH, by all KINDS.");
        ItchParish x = Checks.with("kind step 1 spot 0;kind step 8 spot 9;kind step 1 spot 5;kind step 8 spot 6;kind step 1 spot 7;" + SEVEN);
        s.fine("five", x, x.signs(0, 1), 5);
        s.fine("five, round", x, x.signs(6, 0), 5);
        s.fine("none", x, x.signs(0, 2), 0);
        s.fine("none on himself", x, x.signs(0, 0), 0);
        x.rewrite(1, 1, 0);
        s.fine("one SPOT by two KINDS", x, x.signs(0, 1), 4);
        x.rewrite(0, 0, 7);
        s.fine("on himself", x, x.signs(6, 6), 1);
        s.says(40, "SIGNS (2).");
        s.refused("signs(7, 0)", x, x.signs(7, 0), 2);
        s.refused("signs(0, 7)", x, x.signs(0, 7), 2);
        s.refused("signs(-1, 0)", x, x.signs(-1, 0), 2);
        s.refused("signs(0, -1)", x, x.signs(0, -1), 2);
        ItchParish none = Checks.with("person a home 0;");
        s.fine("no KINDS", none, none.signs(0, 0), 0);
    }

    private void walks() {
        ItchParish x = Checks.with("kind step 1 spot 0;person a home 0;person b home 59;thing a 0;thing b 0;thing a 0;");
        s.says(41, "WALK from a place of the road (0 to 59) for a set of THINGS: a tramp goes from there to all HOMES of their BEARERS, as he likes, not back: the fewest places along the road (0 for no THINGS).");
        s.fine("no THINGS", x, x.walk(30, 0), 0);
        s.fine("from 0 to both ends", x, x.walk(0, 3), 59);
        s.fine("from 59 to both ends", x, x.walk(59, 3), 59);
        s.fine("from 29: the nearer end first", x, x.walk(29, 3), 88);
        s.fine("from 30: the nearer end first", x, x.walk(30, 3), 88);
        s.fine("from 1", x, x.walk(1, 7), 60);
        s.fine("there already", x, x.walk(59, 5), 0);
        s.fine("two of one BEARER", x, x.walk(0, 5), 59);
        s.fine("one", x, x.walk(59, 2), 59);
        ItchParish within = Checks.with("kind step 1 spot 0;person a home 10;person b home 50;thing a 0;thing b 0;");
        int[] from = {0, 9, 10, 11, 29, 30, 31, 49, 50, 51, 59};
        int[] fewest = {50, 41, 40, 41, 59, 60, 59, 41, 40, 41, 49};
        for (int k = 0; k < from.length; k++) {
            s.fine("10 and 50 from " + from[k], within, within.walk(from[k], 3), fewest[k]);
        }
        s.says(41, "WALK (5).");
        s.refused("place 60", x, x.walk(60, 1), 5);
        s.refused("place -1", x, x.walk(-1, 1), 5);
        s.refused("place 60, no THINGS", x, x.walk(60, 0), 5);
        s.refused("place MIN", x, x.walk(MIN, 0), 5);
        s.refused("THING 3", x, x.walk(0, 8), 5);
        s.refused("THINGS 0 to 3", x, x.walk(0, 15), 5);
        s.refused("set -1", x, x.walk(0, -1), 5);
        s.refused("set MIN", x, x.walk(0, MIN), 5);
        s.refused("set MAX", x, x.walk(0, MAX), 5);
        x.pass(59);
        x.rule(4, 59);
        x.scratch(0, 0);
        s.fine("SCRATCHED ones, too", x, x.walk(59, 1), 0);
        s.fine("SCRATCHED ones, too", x, x.walk(0, 1), 59);
        ItchParish none = new ItchParish();
        s.fine("nobody", none, none.walk(59, 0), 0);
        s.refused("nobody", none, none.walk(59, 1), 5);
        ItchParish eight = Checks.with(NEXT + SEVEN + "thing a 0;".repeat(8));
        s.fine("eight", eight, eight.walk(0, 255), 5);
        s.refused("a ninth", eight, eight.walk(0, 256), 5);
    }

    private void shares() {
        ItchParish x = Checks.with("kind step 1 spot 0;person a home 0;person b home 59;thing a 0;thing b 0;");
        s.says(42, "SHARE of a THING of a set: how much more that is as it comes, on the mean of all orders in which those of the set come.");
        s.fraction("alone", x, x.share(30, 1, 0), 29, 1);
        s.fraction("29 or 58", x, x.share(30, 3, 0), 87, 2);
        s.fraction("30 or 59", x, x.share(30, 3, 1), 89, 2);
        s.fraction("nothing more", x, x.share(59, 1, 0), 0, 1);
        ItchParish eight = Checks.with(NEXT + SEVEN + "thing a 0;".repeat(8));
        s.fraction("an eighth of 54", eight, eight.share(59, 255, 7), 27, 4);
        s.fraction("an eighth of 1", eight, eight.share(4, 255, 0), 1, 8);
        s.fraction("an eighth of nothing", eight, eight.share(5, 255, 0), 0, 1);
        s.fraction("a seventh of 5", eight, eight.share(0, 127, 0), 5, 7);
        s.says(42, "The FRACTION is SHARE of a THING of a set (2; 5; 8: it is not of the set).");
        s.refused("not of the set", x, x.share(0, 2, 0), 8);
        s.refused("not of none", x, x.share(0, 0, 0), 8);
        s.refused("THING 2", x, x.share(0, 3, 2), 2);
        s.refused("THING -1", x, x.share(0, 3, -1), 2);
        s.refused("THING 32", x, x.share(0, 3, 32), 2);
        s.refused("2 ahead of 5", x, x.share(60, 4, 2), 2);
        s.refused("place 60", x, x.share(60, 3, 0), 5);
        s.refused("place -1", x, x.share(-1, 3, 0), 5);
        s.refused("set 4", x, x.share(0, 4, 0), 5);
        s.refused("set 5", x, x.share(0, 5, 0), 5);
        s.refused("set -1", x, x.share(0, -1, 0), 5);
        s.refused("5 ahead of 8", x, x.share(60, 2, 0), 5);
        s.refused("a ninth", eight, eight.share(0, 511, 0), 5);
    }

    private void games() {
        ItchParish x = Checks.with(GAME);
        s.says(43, "GAME; STATUS tells NONE from -1 (2; 5: one and himself, too).");
        s.fine("-1", x, x.game(0, 1, 3), -1);
        s.refused("turns -1", x, x.game(0, 1, -1), 5);
        s.refused("turns 5", x, x.game(0, 1, 5), 5);
        s.refused("turns MIN", x, x.game(0, 1, MIN), 5);
        s.refused("turns MAX", x, x.game(0, 1, MAX), 5);
        s.refused("himself", x, x.game(0, 0, 1), 5);
        s.refused("himself, turns 0", x, x.game(2, 2, 0), 5);
        s.refused("PERSON 3", x, x.game(3, 0, 1), 2);
        s.refused("PERSON -1", x, x.game(0, -1, 1), 2);
        s.refused("2 ahead of 5", x, x.game(3, 3, 5), 2);
        s.says(43, "GAME of two PEOPLE and n turns (0 to 4): by turns, the first first, one SCRATCHES a THING that is UP now that he can SCRATCH and neither has in the game, or nothing: WORTHS of the first's less those of the second's, by best play.");
        s.fine("turns 0", x, x.game(0, 1, 0), 0);
        s.fine("turns 1", x, x.game(0, 1, 1), 5);
        s.fine("turns 2", x, x.game(0, 1, 2), -4);
        s.fine("turns 4", x, x.game(0, 1, 4), -1);
        s.fine("the other first", x, x.game(1, 0, 1), 9);
        s.fine("nothing is done", x, x.many(7), 0);
        ItchParish eight = Checks.with(NEXT + SEVEN + "thing a 0 worth 9;".repeat(8));
        int[] due = {0, 9, 0, 9, 0};
        for (int turns = 0; turns < 5; turns++) {
            s.fine("eight alike, turns " + turns, eight, eight.game(0, 2, turns), due[turns]);
        }
        s.fine("who can't", eight, eight.game(1, 0, 1), 0);
        s.fine("who can't, then the other", eight, eight.game(1, 0, 4), -18);
        s.fine("the other, then who can't", eight, eight.game(0, 1, 4), 18);
    }

    private void gamesNow() {
        s.says(43, "one SCRATCHES a THING that is UP now that he can SCRATCH and neither has in the game, or nothing");
        ItchParish one = Checks.with(NEXT + SEVEN + "thing a 0 worth 9;");
        s.fine("one THING for both", one, one.game(0, 2, 2), 9);
        s.fine("one THING for both, turns 4", one, one.game(0, 2, 4), 9);
        one.scratch(0, 0);
        s.fine("SCRATCHED ones are none", one, one.game(0, 2, 4), 0);
        s.refused("SCRATCHED ones are none", one, one.moveOf(0, 2, 4), 8);
        ItchParish late = Checks.with("arm 59;kind step 1 spot 0;person a home 0;person b home 2;thing a 0 worth 3;");
        late.pass(1);
        s.fine("not UP yet", late, late.game(0, 1, 1), 0);
        s.refused("not UP yet", late, late.moveOf(0, 1, 1), 8);
        late.pass(1);
        s.fine("UP now", late, late.game(0, 1, 1), 3);
        s.fine("UP now", late, late.moveOf(0, 1, 1), 0);
        late.rule(4, 1);
        s.fine("too FAR", late, late.game(0, 1, 4), 0);
        s.refused("too FAR", late, late.moveOf(0, 1, 4), 8);
    }

    private void moves() {
        ItchParish x = Checks.with(GAME);
        s.says(44, "MOVE (2; 5: turns 0, too; 8: nothing).");
        s.refused("turns 0", x, x.moveOf(0, 1, 0), 5);
        s.refused("turns -1", x, x.moveOf(0, 1, -1), 5);
        s.refused("turns 5", x, x.moveOf(0, 1, 5), 5);
        s.refused("himself", x, x.moveOf(1, 1, 1), 5);
        s.refused("PERSON 3", x, x.moveOf(3, 0, 1), 2);
        s.refused("PERSON -1", x, x.moveOf(-1, 0, 1), 2);
        s.refused("2 ahead of 5", x, x.moveOf(0, 3, 0), 2);
        s.says(44, "MOVE: the first's first THING, of all that are as good the first; nothing comes last.");
        s.fine("turns 1", x, x.moveOf(0, 1, 1), 0);
        s.fine("turns 2", x, x.moveOf(0, 1, 2), 0);
        s.fine("turns 3, both alike", x, x.moveOf(0, 1, 3), 0);
        s.fine("turns 4, the lesser one", x, x.moveOf(0, 1, 4), 1);
        s.fine("the other", x, x.moveOf(1, 0, 1), 2);
        ItchParish alone = Checks.with("kind step 1 spot 0;" + SEVEN + "thing a 0;");
        s.fine("now is as good as later: nothing comes last", alone, alone.moveOf(0, 1, 3), 0);
        s.refused("nothing", alone, alone.moveOf(1, 0, 3), 8);
        s.fine("nothing is worth 0 by turns 1", alone, alone.game(1, 0, 1), 0);
        ItchParish last = Checks.with(NEXT + SEVEN + "thing a 0 worth 8;".repeat(7) + "thing a 0 worth 9;");
        s.fine("the last of eight", last, last.moveOf(0, 2, 1), 7);
    }

    private void tongues() {
        ItchParish x = new ItchParish();
        s.says(45, "TONGUE of n (0 to 12): in each MINUTE it is SCRATCHED by ODDS sixteenths: the odds that it is in one of n.");
        s.fraction("n 0", x, x.tongue(0), 0, 1);
        s.fraction("n 1", x, x.tongue(1), 1, 4);
        s.fraction("n 12, ODDS 4", x, x.tongue(12), 16245775, 16777216);
        x.rule(3, 8);
        s.fraction("n 12, ODDS 8", x, x.tongue(12), 4095, 4096);
        x.rule(3, 15);
        s.fraction("n 12, ODDS 15", x, x.tongue(12), 281474976710655L, 281474976710656L);
        x.rule(3, 1);
        s.fraction("n 12, ODDS 1", x, x.tongue(12), 151728638820031L, 281474976710656L);
        s.fraction("n 0, ODDS 1", x, x.tongue(0), 0, 1);
        x.rule(3, 0);
        s.fraction("n 12, ODDS 0", x, x.tongue(12), 0, 1);
        x.rule(3, 16);
        s.fraction("n 1, ODDS 16", x, x.tongue(1), 1, 1);
        s.fraction("n 12, ODDS 16", x, x.tongue(12), 1, 1);
        s.fraction("n 0, ODDS 16", x, x.tongue(0), 0, 1);
        s.says(45, "The FRACTION is TONGUE (5).");
        x.tongue(1);
        s.refused("n -1", x, x.tongue(-1), 5);
        s.refused("n 13", x, x.tongue(13), 5);
        s.refused("n MIN", x, x.tongue(MIN), 5);
        s.refused("n MAX", x, x.tongue(MAX), 5);
        s.due("top() stays", x.top(), 1);
        s.due("bottom() stays", x.bottom(), 1);
    }
}
