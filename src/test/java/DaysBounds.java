/** The edges of DAYS that are LIVED: promises 46 to 48 and their terms. */
final class DaysBounds {
    private static final int MIN = Integer.MIN_VALUE;
    private static final int MAX = Integer.MAX_VALUE;
    // His own THINGS ITCH on him, at SPOT 0 by the first KIND, which he can REACH.
    private static final String ALONE = "kind step 1 spot 0;kind step 1 spot 5;person a home 0 reach 0;";
    private static final String SEVEN = "arm 59;kind step 1 spot 0;person a home 5;person b home 5;person c home 5;person d home 5;"
        + "person e home 5;person f home 5;person g home 5;";

    private final Sentences s;

    DaysBounds(Sentences sentences) {
        s = sentences;
    }

    void tell() {
        seeds();
        livedTold();
        waits();
        losses();
        scratches();
        tests();
        comparesAtEdges();
        drawsByHand();
        anyBelowOdds();
        anyMissed();
        anyWithout();
        loops();
        threeHundred();
        stops();
        stays();
        meanRanges();
        meanFound();
    }

    private void lived(String what, ItchParish x, int... tallies) {
        for (int k = 0; k < 5; k++) {
            s.fine(what + ": lived(" + k + ")", x, x.lived(k), tallies[k]);
        }
    }

    private void live(String days, ItchParish x, int steps, int... tallies) {
        Checks.days(x, days);
        s.fine(days, x, x.live(0), steps);
        lived(days, x, tallies);
    }

    private static ItchParish atMinute(String district, int minute) {
        ItchParish x = Checks.with(district);
        for (int k = 0; k < 20 && x.many(5) < minute; k++) {
            x.pass(Math.min(999, minute - x.many(5)));
        }
        return x;
    }

    private void seeds() {
        ItchParish x = Checks.with(ALONE);
        s.says(46, "LIVED: how many STEPS were come to, MISSED ones, too (5; 8: no DAYS).");
        s.refused("no DAYS", x, x.live(0), 8);
        s.refused("5 ahead of 8", x, x.live(-1), 5);
        s.refused("5 ahead of 8", x, x.live(10000), 5);
        s.fine("no STEPS", x, x.days(0), 0);
        s.fine("DAYS of no STEPS", x, x.live(0), 0);
        Checks.days(x, "scratch a 0;");
        s.fine("a MISSED one, too", x, x.live(0), 1);
        s.says(46, "LIVED by a seed (0 to 9,999): all is as it becomes by it, and stays so.");
        s.fine("seed 9999", x, x.live(9999), 1);
        s.refused("seed 10000", x, x.live(10000), 5);
        s.refused("seed -1", x, x.live(-1), 5);
        s.refused("seed MIN", x, x.live(MIN), 5);
        s.refused("seed MAX", x, x.live(MAX), 5);
        Checks.district(x, ALONE);
        s.refused("no DAYS in a new DISTRICT", x, x.live(0), 8);
    }

    private void livedTold() {
        ItchParish x = Checks.with(ALONE);
        s.says(47, "else 0 (5; 8: there was none).");
        s.refused("none", x, x.lived(0), 8);
        s.refused("none", x, x.lived(4), 8);
        s.refused("5 ahead of 8", x, x.lived(5), 5);
        s.refused("5 ahead of 8", x, x.lived(-1), 5);
        x.live(0);
        s.refused("none with STATUS 0", x, x.lived(0), 8);
        Checks.days(x, "wait 3;");
        x.mean(0, 1);
        s.refused("mean() is none", x, x.lived(1), 8);
        s.says(47, "Of live() latest with STATUS 0, whatever came since, what 0: MISSED, 1: MINUTES, 2: how many THINGS were LOST, 3: SCRATCHED,");
        x.mark();
        live("wait 3;lose a 0;lose a 1;scratch a 0;scratch a 1;scratch a 2;wait 4;", x, 7, 2, 7, 2, 1, 0);
        x.live(-1);
        lived("behind a refused one", x, 2, 7, 2, 1, 0);
        x.mean(0, 20);
        lived("behind mean()", x, 2, 7, 2, 1, 0);
        x.back();
        lived("behind back()", x, 2, 7, 2, 1, 0);
        x.district(0);
        lived("behind district()", x, 2, 7, 2, 1, 0);
        x.days(0);
        s.fine("DAYS of no STEPS", x, x.live(0), 0);
        lived("of no STEPS", x, 0, 0, 0, 0, 0);
        s.refused("lived(5)", x, x.lived(5), 5);
        s.refused("lived(-1)", x, x.lived(-1), 5);
        s.refused("lived(MIN)", x, x.lived(MIN), 5);
        s.refused("lived(MAX)", x, x.lived(MAX), 5);
    }

    private void waits() {
        s.says(46, "What can't be is MISSED: MINUTES beyond 9,999 (as a whole, by any, too)");
        ItchParish x = atMinute(ALONE, 9900);
        live("wait 99;", x, 1, 0, 99, 0, 0, 0);
        s.fine("9999", x, x.many(5), 9999);
        live("wait 1;", x, 1, 1, 0, 0, 0, 0);
        s.fine("9999 still", x, x.many(5), 9999);
        ItchParish y = atMinute(ALONE, 9901);
        live("wait 99;wait 98;wait 1;", y, 3, 2, 98, 0, 0, 0);
        s.fine("9999", y, y.many(5), 9999);
    }

    private void losses() {
        s.says(46, "lose: a PERSON, a KIND (WORTH 1)");
        ItchParish x = atMinute(ALONE + "thing a 0 worth 9;".repeat(7), 4);
        live("lose a 1;", x, 1, 0, 0, 1, 0, 0);
        s.fine("WORTH 1", x, x.thing(7, 2), 1);
        s.fine("KIND", x, x.thing(7, 1), 1);
        s.fine("LOST", x, x.thing(7, 3), 4);
        s.says(46, "a lose of a ninth THING");
        live("lose a 0;lose a 0;", x, 2, 2, 0, 0, 0, 0);
        s.fine("eight", x, x.many(2), 8);
        ItchParish y = Checks.with(ALONE);
        live("loop 9;lose a 0;end;", y, 10, 1, 0, 8, 0, 0);
    }

    private void scratches() {
        s.says(46, "a scratch (by any, too) of a THING that there is not, that is not UP, by one who can't");
        ItchParish x = Checks.with(ALONE + "thing a 0;");
        live("scratch a 1;scratch a 7;", x, 2, 2, 0, 0, 0, 0);
        live("scratch a 0;scratch a 0;", x, 2, 1, 0, 0, 1, 0);
        ItchParish y = Checks.with("arm 6;kind step 1 spot 0;person a home 0;person b home 10;person c home 16;person d home 17;thing a 0;");
        live("wait 9;scratch c 0;", y, 2, 1, 9, 0, 0, 0);
        live("wait 1;scratch b 0;scratch d 0;scratch a 0;scratch c 0;scratch c 0;", y, 6, 4, 1, 0, 1, 0);
        s.fine("FOUND at", y, y.thing(0, 8), 20);
    }

    private void tests() {
        s.says(46, "found, up: a THING (0 to 7) that there is and that is FOUND, UP now;");
        String both = "when up 0;wait 1;end;when found 0;wait 2;end;";
        ItchParish x = Checks.with(ALONE);
        live(both + "when up 7;wait 9;end;when found 7;wait 9;end;", x, 4, 0, 0, 0, 0, 0);
        ItchParish y = Checks.with("arm 59;kind step 1 spot 0;person a home 0;person b home 3;thing a 0;");
        y.pass(2);
        live(both, y, 2, 0, 0, 0, 0, 0);
        y.pass(1);
        live(both, y, 3, 0, 1, 0, 0, 0);
        y.scratch(0, 0);
        live(both, y, 2, 0, 0, 0, 0, 0);
        y.pass(2);
        live(both, y, 2, 0, 0, 0, 0, 0);
        y.pass(1);
        live(both, y, 3, 0, 2, 0, 0, 0);
        s.fine("FOUND at 7", y, y.thing(0, 8), 7);
    }

    private void comparesAtEdges() {
        s.says(46, "minute: 0 to 9,999;");
        String all = "when minute<5;lose a 0;end;when minute=5;lose a 0;lose a 0;end;when minute>5;lose a 0;lose a 0;lose a 0;end;";
        int[] lost = {1, 2, 3};
        for (int k = 0; k < 3; k++) {
            ItchParish x = atMinute(ALONE, 4 + k);
            live(all, x, 3 + lost[k], 0, 0, lost[k], 0, 0);
        }
        String ends = "when minute<0;stop;end;when minute>9999;stop;end;when minute=0;lose a 0;end;when minute=9999;lose a 0;lose a 0;end;";
        ItchParish first = Checks.with(ALONE);
        live(ends, first, 5, 0, 0, 1, 0, 0);
        ItchParish last = atMinute(ALONE, 9999);
        live(ends, last, 6, 0, 0, 2, 0, 0);
        ItchParish between = atMinute(ALONE, 1);
        live(ends, between, 4, 0, 0, 0, 0, 0);
    }

    private void drawsByHand() {
        s.says(46, "Draws: s, at first the seed, becomes what is left of s times 2,971 and 10,957 by 65,536; the draw by n is the rest of s by 8, rounded down, by n.");
        // By seed 0, s is 10957, 58348, 20145, 27384, 38645, 6180: by 8 and rounded down 1369, 7293, 2518, 3423, 4830, 772.
        ItchParish x = Checks.with("odds 7;" + SEVEN + "thing a 0;".repeat(8));
        live("any;", x, 1, 0, 0, 0, 1, 0);
        s.fine("1369 by 7 is 4, 7293 by 8 is 5, 2518 by 16 is 6", x, x.many(7), 32);
        ItchParish y = Checks.with("odds 7;" + SEVEN + "thing a 0;".repeat(8));
        live("any;any;", y, 2, 0, 0, 0, 2, 0);
        s.fine("then 3423 by 7 is 0, 4830 by 8 is 6, 772 by 16 is 4", y, y.many(7), 96);
        live("any;", y, 1, 1, 0, 0, 0, 0);
        s.fine("each time from the seed: THING 5 again", y, y.many(7), 96);
        s.says(46, "any: a PERSON by a draw by how many there are, a THING by a draw by how many there are, a draw by 16 (all three first):");
        ItchParish z = Checks.with("odds 6;" + SEVEN + "thing a 0;".repeat(8));
        live("any;any;", z, 2, 0, 1, 0, 1, 0);
        s.fine("THING 6 alone", z, z.many(7), 64);
        ItchParish one = Checks.with("odds 7;" + ALONE + "thing a 0;");
        live("any;", one, 1, 0, 0, 0, 1, 0);
        s.fine("by 1 is 0", one, one.many(7), 1);
    }

    private void anyBelowOdds() {
        s.says(46, "if that is below ODDS, he SCRATCHES it, else a MINUTE goes by.");
        // The third draw by 16 is 6 by seed 0, 15 by seed 9999 (s: 30178, 16547, 20094).
        int[] odds = {0, 6, 7, 16};
        for (int much : odds) {
            ItchParish x = Checks.with("odds " + much + ";" + ALONE + "thing a 0;");
            Checks.days(x, "any;");
            s.fine("seed 0, ODDS " + much, x, x.live(0), 1);
            lived("seed 0, ODDS " + much, x, 0, much <= 6 ? 1 : 0, 0, much <= 6 ? 0 : 1, 0);
        }
        for (int much = 15; much <= 16; much++) {
            ItchParish x = Checks.with("odds " + much + ";" + ALONE + "thing a 0;");
            Checks.days(x, "any;");
            s.fine("seed 9999, ODDS " + much, x, x.live(9999), 1);
            lived("seed 9999, ODDS " + much, x, 0, 16 - much, 0, much - 15, 0);
        }
    }

    private void anyMissed() {
        s.says(46, "MINUTES beyond 9,999 (as a whole, by any, too)");
        ItchParish x = atMinute("odds 0;" + ALONE + "thing a 0;", 9998);
        live("any;any;any;", x, 3, 2, 1, 0, 0, 0);
        s.fine("9999", x, x.many(5), 9999);
        s.says(46, "a scratch (by any, too) of a THING that there is not, that is not UP, by one who can't");
        ItchParish y = Checks.with("odds 16;" + ALONE + "thing a 0;");
        live("any;any;any;", y, 3, 2, 0, 0, 1, 0);
        ItchParish z = Checks.with("odds 16;" + ALONE + "thing a 1;");
        live("any;any;", z, 2, 2, 0, 0, 0, 0);
        ItchParish late = Checks.with("odds 16;arm 59;kind step 1 spot 0;person a home 0 reach 0;person b home 9 reach 0;thing a 0;");
        live("any;", late, 1, 1, 0, 0, 0, 0);
        late.pass(9);
        live("any;", late, 1, 0, 0, 0, 1, 0);
    }

    private void anyWithout() {
        s.says(46, "any without PEOPLE or THINGS (no draws).");
        ItchParish nobody = new ItchParish();
        live("any;any;", nobody, 2, 2, 0, 0, 0, 0);
        s.fine("no MINUTE went by", nobody, nobody.many(5), 0);
        // With draws in the first any the second one's would be 4, not 6.
        ItchParish x = Checks.with("odds 5;" + ALONE);
        live("any;lose a 0;any;", x, 3, 1, 1, 1, 0, 0);
        ItchParish y = Checks.with("odds 5;" + ALONE + "thing a 0;");
        live("any;any;", y, 2, 0, 1, 0, 1, 0);
    }

    private void loops() {
        s.says(46, "loop n (1 to 99): as often.");
        ItchParish x = Checks.with(ALONE);
        live("loop 1;wait 1;end;", x, 2, 0, 1, 0, 0, 0);
        live("loop 99;wait 1;end;", x, 100, 0, 99, 0, 0, 0);
        live("loop 2;loop 3;wait 1;end;end;", x, 9, 0, 6, 0, 0, 0);
        live("loop 2;loop 2;loop 2;wait 1;end;end;end;", x, 15, 0, 8, 0, 0, 0);
        live("loop 99;end;wait 1;", x, 2, 0, 1, 0, 0, 0);
        live("loop 2;loop 99;end;end;", x, 3, 0, 0, 0, 0, 0);
        s.says(46, "At most 300 STEPS (when, loop count as one each time they are come to from ahead; end does not).");
        live("loop 3;when minute<0;wait 1;end;end;", x, 4, 0, 0, 0, 0, 0);
        live("loop 3;when minute>0;wait 1;end;end;", x, 7, 0, 3, 0, 0, 0);
        live("when minute>0;end;when minute<0;end;", x, 2, 0, 0, 0, 0, 0);
        live("loop 5;loop 1;end;end;", x, 6, 0, 0, 0, 0, 0);
    }

    private void threeHundred() {
        s.says(46, "At most 300 STEPS (when, loop count as one each time they are come to from ahead; end does not).");
        s.says(47, "4: 1 if a STEP was left to be done (by the 300 alone, not by stop), else 0");
        ItchParish x = Checks.with(ALONE);
        String most = "loop 99;wait 1;wait 1;wait 1;end;";
        live(most + "wait 1;", x, 299, 0, 298, 0, 0, 0);
        live(most + "wait 1;wait 1;", x, 300, 0, 299, 0, 0, 0);
        live(most + "wait 1;wait 1;wait 1;", x, 300, 0, 299, 0, 0, 1);
        live(most + "wait 1;wait 1;stop;", x, 300, 0, 299, 0, 0, 1);
        live(most + "wait 1;wait 1;when minute<0;end;", x, 300, 0, 299, 0, 0, 1);
        live(most + "wait 1;wait 1;loop 1;end;", x, 300, 0, 299, 0, 0, 1);
        live(most + "wait 1;loop 1;wait 1;end;", x, 300, 0, 298, 0, 0, 1);
        live(most + "loop 1;wait 1;end;", x, 300, 0, 298, 0, 0, 0);
        live(most + "loop 2;wait 1;end;", x, 300, 0, 298, 0, 0, 1);
        live("when minute>0;" + most + "wait 1;end;", x, 300, 0, 298, 0, 0, 0);
        live("wait 1;wait 1;" + most + "loop 9;end;", x, 300, 0, 299, 0, 0, 1);
        live("wait 1;" + most + "loop 9;end;", x, 300, 0, 298, 0, 0, 0);
    }

    private void stops() {
        s.says(47, "4: 1 if a STEP was left to be done (by the 300 alone, not by stop), else 0");
        ItchParish x = Checks.with(ALONE);
        live("stop;wait 1;", x, 1, 0, 0, 0, 0, 0);
        live("wait 1;stop;", x, 2, 0, 1, 0, 0, 0);
        live("loop 9;wait 1;when minute>0;stop;end;end;wait 1;", x, 4, 0, 1, 0, 0, 0);
        live("loop 99;wait 1;wait 1;wait 1;end;wait 1;stop;wait 1;", x, 300, 0, 298, 0, 0, 0);
        live("loop 99;wait 1;wait 1;wait 1;end;stop;wait 1;", x, 299, 0, 297, 0, 0, 0);
    }

    private void stays() {
        s.says(46, "LIVED by a seed (0 to 9,999): all is as it becomes by it, and stays so.");
        ItchParish x = Checks.with(ALONE);
        live("lose a 0;wait 2;scratch a 0;", x, 3, 0, 2, 1, 1, 0);
        s.fine("the MINUTE", x, x.many(5), 2);
        s.fine("the THINGS", x, x.many(2), 1);
        s.fine("SCRATCHED", x, x.thing(0, 7), 2);
        s.fine("once more", x, x.live(0), 3);
        lived("once more", x, 1, 2, 1, 0, 0);
        s.fine("the MINUTE", x, x.many(5), 4);
    }

    private void meanRanges() {
        ItchParish x = Checks.with(ALONE);
        s.says(48, "The FRACTION is the mean of how many THINGS are FOUND behind the DAYS, by so many seeds (1 to 20) from one on (all stays as it is) (5: the last above 9,999, too; 8).");
        s.refused("no DAYS", x, x.mean(0, 1), 8);
        s.refused("5 ahead of 8", x, x.mean(0, 0), 5);
        Checks.days(x, "any;");
        s.refused("0 seeds", x, x.mean(0, 0), 5);
        s.refused("21 seeds", x, x.mean(0, 21), 5);
        s.refused("-1 seeds", x, x.mean(0, -1), 5);
        s.refused("MIN seeds", x, x.mean(0, MIN), 5);
        s.refused("MAX seeds", x, x.mean(MAX, MAX), 5);
        s.refused("from -1", x, x.mean(-1, 1), 5);
        s.refused("from MIN", x, x.mean(MIN, 20), 5);
        s.refused("from 10000", x, x.mean(10000, 1), 5);
        s.refused("from MAX", x, x.mean(MAX, 1), 5);
        s.refused("9999 and 10000", x, x.mean(9999, 2), 5);
        s.refused("9981 to 10000", x, x.mean(9981, 20), 5);
        s.fraction("9980 to 9999", x, x.mean(9980, 20), 0, 1);
        s.fraction("9999", x, x.mean(9999, 1), 0, 1);
        s.fraction("0", x, x.mean(0, 1), 0, 1);
    }

    private static int thirdDraw(int seed) {
        int drawn = seed;
        for (int k = 0; k < 3; k++) {
            drawn = (drawn * 2971 + 10957) % 65536;
        }
        return drawn / 8 % 16;
    }

    private void meanFound() {
        s.says(48, "The FRACTION is the mean of how many THINGS are FOUND behind the DAYS, by so many seeds (1 to 20) from one on (all stays as it is)");
        ItchParish x = Checks.with("odds 8;" + ALONE + "thing a 0;");
        Checks.days(x, "any;");
        for (int from : new int[] {0, 500, 9980}) {
            int found = 0;
            for (int seed = from; seed < from + 20; seed++) {
                found += thirdDraw(seed) < 8 ? 1 : 0;
            }
            s.fine("from " + from, x, x.mean(from, 20));
            s.due("mean from " + from, x.top() * 20, found * x.bottom());
        }
        s.fine("no MINUTE went by", x, x.many(5), 0);
        s.fine("none is SCRATCHED", x, x.many(7), 0);
        ItchParish y = Checks.with("arm 59;kind step 1 spot 0;person a home 0;person b home 10;thing a 0;thing a 0;");
        Checks.days(y, "wait 10;scratch a 0;wait 9;");
        s.fraction("FOUND one MINUTE later", y, y.mean(3, 20), 0, 1);
        Checks.days(y, "wait 10;scratch a 0;wait 10;");
        s.fraction("FOUND in the last MINUTE", y, y.mean(3, 20), 1, 1);
        y.pass(10);
        y.scratch(0, 1);
        s.fraction("FOUND behind the DAYS, SCRATCHED ahead of them, too", y, y.mean(3, 20), 2, 1);
        s.fine("the MINUTE stays", y, y.many(5), 10);
        s.fine("FOUND stays", y, y.many(8), 0);
    }
}
