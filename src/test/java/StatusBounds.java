import java.util.ArrayList;
import java.util.List;
import java.util.function.Supplier;
import java.util.function.ToLongFunction;

/** STATUS by its numbers, for each call that can have it; and that such a call changes nothing but what the document names. */
final class StatusBounds {
    private static final int NONE = ItchParish.NONE;
    private static final int MAX = Integer.MAX_VALUE;

    // Five KINDS, seven PEOPLE, eight THINGS; THING 0 of a on b at SPOT 0, THING 1 of g on a at 15, by 10.
    private static final String FULL = "odds 9;arm 3;kind step 1 spot 0;kind step 2 spot 9 weight 4;kind step 9 spot 3;kind step 7 spot 1;"
        + "kind step 5 spot 5 weight 9;person a home 0 reach 0 5;person b home 4 reach 0;person c home 9;person d home 30 reach 7 8;"
        + "person e home 33;person f home 33 reach 1;person g home 59 reach 9;thing a 0 worth 3;thing g 0;thing c 1;thing d 2 worth 9;"
        + "thing e 3;thing f 4;thing b 0 worth 2;thing a 1;";
    private static final String DAYS = "wait 3;loop 9;any;end;when up 7;scratch d 4;end;";

    private final Sentences s;

    StatusBounds(Sentences sentences) {
        s = sentences;
    }

    private static int bit(boolean done) {
        return done ? 1 : NONE;
    }

    void tell() {
        noTray();
        noSuch();
        missing();
        noPlace();
        badNumber();
        belowZero();
        tooMany();
        noneThere();
        canNotBe();
        faults();
        unlike();
        asking();
        belowNone();
    }

    // Near the last MINUTE, three MARKS made, DAYS lived, some SCRATCHED, twenty bytes on the tape; TRAYS 0 to 2, no 3.
    private static ItchParish full() {
        ItchParish x = Checks.with(FULL);
        for (int k = 0; k < 10; k++) {
            x.pass(999);
        }
        Checks.days(x, DAYS);
        x.mark();
        x.live(77);
        x.mark();
        x.move(2, 10);
        x.scratch(1, 0);
        x.mark();
        x.teach(6, 2, true);
        x.tray(0, 0, 6);
        x.tray(1, 1, 2);
        x.tray(2, 0, 3);
        for (int place = 0; place < 6; place++) {
            x.write(0, place, place < 5 ? place : 6);
        }
        x.write(2, 1, -1);
        Checks.days(x, DAYS + "stop;");
        Checks.feed(x, "odds 3;arm 2;a 99999");
        x.tongue(2);
        return x;
    }

    // Two KINDS, two PEOPLE, three THINGS that nobody can SCRATCH, DAYS, room for more.
    private static ItchParish small() {
        ItchParish x = Checks.with("arm 3;kind step 1 spot 0;kind step 2 spot 9;person a home 0 reach 0;person b home 4;thing a 0;thing b 0;thing a 1;");
        Checks.days(x, "any;");
        x.tray(0, 2, 3);
        x.pass(4);
        return x;
    }

    private static ItchParish fresh() {
        return new ItchParish();
    }

    /** All that can be seen of an object, by fewer than 300 calls, which use it up. */
    private static List<Long> all(ItchParish x, boolean withTape, boolean withFraction) {
        List<Long> all = new ArrayList<>();
        if (withFraction) {
            all.add(x.top());
            all.add(x.bottom());
        }
        for (int what = 0; what <= 1 && withTape; what++) {
            all.add((long) x.fault(what));
        }
        for (int tray = 0; tray < 4; tray++) {
            for (int place = 0; place < 7; place++) {
                all.add(x.read(tray, place));
            }
            all.add((long) x.status());
        }
        for (int what = 0; what <= 4; what++) {
            all.add((long) x.lived(what));
        }
        addDistrict(all, x);
        all.add((long) x.live(5));
        addOutline(all, x);
        for (int k = 0, left = x.back(); k < 4 && left != NONE; k++, left = x.back()) {
            all.add((long) left);
            addOutline(all, x);
            all.add((long) x.live(5));
        }
        if (withTape) {
            all.add((long) x.district(20));
            all.add((long) x.fault(0));
            all.add((long) x.fault(1));
            all.add((long) x.feed(0, 0, 0, 0, 0));
        }
        return all;
    }

    private static void addDistrict(List<Long> all, ItchParish x) {
        int things = x.many(2);
        addOutline(all, x);
        for (int kind = 0; kind < 5; kind++) {
            for (int what = 0; what <= 2; what++) {
                all.add((long) x.kind(kind, what));
            }
        }
        for (int thing = 0; thing < things; thing++) {
            for (int what = 0; what <= 3; what++) {
                all.add((long) x.thing(thing, what));
            }
        }
    }

    private static void addOutline(List<Long> all, ItchParish x) {
        for (int what = 0; what <= 8; what++) {
            all.add((long) x.many(what));
        }
        for (int person = 0; person < 7; person++) {
            all.add((long) x.person(person, 0));
            all.add((long) x.person(person, 1));
        }
        for (int thing = 0; thing < 8; thing++) {
            all.add((long) x.thing(thing, 8));
        }
    }

    private void refused(Supplier<ItchParish> made, String what, ToLongFunction<ItchParish> call, int status) {
        s.saysOf(what.split("[^a-zA-Z]")[0]);
        ItchParish x = made.get();
        s.refused(what, x, call.applyAsLong(x), status);
        boolean withTape = status != 10;
        s.due(what + " changes nothing", all(x, withTape, true).equals(all(made.get(), withTape, true)) ? 1 : 0, 1);
    }

    private void asks(String what, ToLongFunction<ItchParish> call) {
        asks(StatusBounds::full, what, call);
    }

    private void asks(Supplier<ItchParish> made, String what, ToLongFunction<ItchParish> call) {
        s.saysOf(what);
        ItchParish x = made.get();
        call.applyAsLong(x);
        s.due(what + " status()", x.status(), 0);
        s.due(what + " changes nothing", all(x, true, false).equals(all(made.get(), true, false)) ? 1 : 0, 1);
    }

    private void noTray() {
        s.says(2, "STATUS of a call is the first of these that holds: 1 no such TRAY (or sort).");
        for (int tray : new int[] {-1, 4, MAX, Integer.MIN_VALUE}) {
            refused(StatusBounds::full, "tray", x -> bit(x.tray(tray, 0, 61)), 1);
            refused(StatusBounds::full, "tray, sort", x -> bit(x.tray(0, tray, -1)), 1);
            refused(StatusBounds::full, "write", x -> bit(x.write(tray, 99, 1)), 1);
            refused(StatusBounds::full, "read", x -> x.read(tray, 99), 1);
            refused(StatusBounds::full, "pour from", x -> bit(x.pour(tray, 0, 3, 0, -1)), 1);
            refused(StatusBounds::full, "pour to", x -> bit(x.pour(3, 0, tray, 0, -1)), 1);
            refused(StatusBounds::full, "copyHomes", x -> x.copyHomes(tray), 1);
            refused(StatusBounds::full, "laws", x -> x.laws(tray, 99), 1);
            refused(StatusBounds::full, "lawOf", x -> x.lawOf(tray, -1, 2), 1);
        }
    }

    private void noSuch() {
        s.says(2, "2 no such PERSON, KIND, THING, SPOT.");
        for (int person : new int[] {-1, 7, MAX, Integer.MIN_VALUE}) {
            refused(StatusBounds::full, "person", x -> x.person(person, 4), 2);
            refused(StatusBounds::full, "far", x -> x.far(person, 0), 2);
            refused(StatusBounds::full, "far", x -> x.far(0, person), 2);
            refused(StatusBounds::full, "lose", x -> x.lose(person, 0, 0), 2);
            refused(StatusBounds::full, "scratch", x -> x.scratch(person, 0), 2);
            refused(StatusBounds::full, "teach", x -> bit(x.teach(person, 0, true)), 2);
            refused(StatusBounds::full, "move", x -> x.move(person, 60), 2);
            refused(StatusBounds::full, "needs", x -> x.needs(person), 2);
            refused(StatusBounds::full, "couples", x -> x.couples(person, 0), 2);
            refused(StatusBounds::full, "whose", x -> bit(x.whose(person, 0, 0)), 2);
            refused(StatusBounds::full, "whose", x -> bit(x.whose(0, 0, person)), 2);
            refused(StatusBounds::full, "hands", x -> x.hands(person, 0), 2);
            refused(StatusBounds::full, "hands", x -> x.hands(0, person), 2);
            refused(StatusBounds::full, "way", x -> x.way(person, 0, -1), 2);
            refused(StatusBounds::full, "way", x -> x.way(0, person, -1), 2);
            refused(StatusBounds::full, "signs", x -> x.signs(person, 0), 2);
            refused(StatusBounds::full, "signs", x -> x.signs(0, person), 2);
            refused(StatusBounds::full, "game", x -> x.game(person, 0, 5), 2);
            refused(StatusBounds::full, "game", x -> x.game(0, person, 5), 2);
            refused(StatusBounds::full, "moveOf", x -> x.moveOf(person, 0, 0), 2);
            refused(StatusBounds::full, "moveOf", x -> x.moveOf(0, person, 0), 2);
        }
        for (int kind : new int[] {-1, 5, MAX, Integer.MIN_VALUE}) {
            refused(StatusBounds::full, "kind", x -> x.kind(kind, 3), 2);
            refused(StatusBounds::full, "lose", x -> x.lose(0, kind, 10), 2);
            refused(StatusBounds::full, "rewrite", x -> x.rewrite(kind, 3, 0), 2);
        }
        for (int thing : new int[] {-1, 8, MAX, Integer.MIN_VALUE}) {
            refused(StatusBounds::full, "thing", x -> x.thing(thing, 10), 2);
            refused(StatusBounds::full, "scratch", x -> x.scratch(0, thing), 2);
            refused(StatusBounds::full, "soonest", x -> x.soonest(thing), 2);
            refused(StatusBounds::full, "works", x -> x.works(thing), 2);
            refused(StatusBounds::full, "share", x -> bit(x.share(60, 256, thing)), 2);
        }
        for (int spot : new int[] {-1, 10, MAX, Integer.MIN_VALUE}) {
            refused(StatusBounds::full, "teach", x -> bit(x.teach(0, spot, false)), 2);
            refused(StatusBounds::full, "couples", x -> x.couples(0, spot), 2);
            refused(StatusBounds::full, "whose", x -> bit(x.whose(0, spot, 0)), 2);
        }
    }

    private void missing() {
        s.says(2, "3 the TRAY is MISSING.");
        refused(StatusBounds::full, "write", x -> bit(x.write(3, -1, 1)), 3);
        refused(StatusBounds::full, "read", x -> x.read(3, 60), 3);
        refused(StatusBounds::full, "pour from", x -> bit(x.pour(3, -1, 1, 0, -1)), 3);
        refused(StatusBounds::full, "pour to", x -> bit(x.pour(1, -1, 3, 0, -1)), 3);
        refused(StatusBounds::full, "copyHomes", x -> x.copyHomes(3), 3);
        refused(StatusBounds::full, "laws", x -> x.laws(3, 16), 3);
        refused(StatusBounds::full, "lawOf", x -> x.lawOf(3, -1, 2), 3);
    }

    private void noPlace() {
        s.says(2, "4 a place that the TRAY has not, or too few numbers.");
        for (int place : new int[] {-1, 6, 60, MAX, Integer.MIN_VALUE}) {
            refused(StatusBounds::full, "write", x -> bit(x.write(0, place, 1)), 4);
            refused(StatusBounds::full, "read", x -> x.read(0, place), 4);
            refused(StatusBounds::full, "pour from", x -> bit(x.pour(0, place, 2, 0, 1)), 4);
            refused(StatusBounds::full, "pour to", x -> bit(x.pour(2, 0, 0, place, 1)), 4);
        }
        refused(StatusBounds::full, "pour, too many there", x -> bit(x.pour(0, 0, 2, 0, 4)), 4);
        refused(StatusBounds::full, "pour, too many here", x -> bit(x.pour(2, 0, 0, 0, 4)), 4);
        refused(StatusBounds::full, "copyHomes of seven to six", x -> x.copyHomes(0), 4);
        refused(StatusBounds::full, "laws, three threes of six", x -> x.laws(0, 3), 4);
        refused(StatusBounds::full, "laws, n far above 15", x -> x.laws(0, MAX), 4);
        refused(StatusBounds::full, "lawOf, a three of two", x -> x.lawOf(1, 1, 2), 4);
    }

    private void badNumber() {
        s.says(2, "5 a number that can't be (a set with a THING that there is not, a number in a TRAY, too).");
        refused(StatusBounds::full, "tray of 61", x -> bit(x.tray(0, 0, 61)), 5);
        refused(StatusBounds::full, "district(21) of 20", x -> x.district(21), 5);
        refused(StatusBounds::full, "days(21) of 20", x -> x.days(21), 5);
        refused(StatusBounds::full, "laws, a number in a TRAY", x -> x.laws(2, 1), 5);
        refused(StatusBounds::full, "lawOf, a number in a TRAY", x -> x.lawOf(2, 1, 0), 5);
        refused(StatusBounds::full, "walk, a set", x -> x.walk(0, 256), 5);
        refused(StatusBounds::full, "share, a set", x -> bit(x.share(0, 257, 0)), 5);
        refused(StatusBounds::full, "rewrite, STEP 0", x -> x.rewrite(0, 0, 0), 5);
        refused(StatusBounds::full, "rewrite, SPOT 10", x -> x.rewrite(0, 1, 10), 5);
        refused(StatusBounds::full, "rewrite, WEIGHT 10", x -> x.rewrite(0, 2, 10), 5);
        refused(StatusBounds::full, "rule, ODDS 17", x -> bit(x.rule(3, 17)), 5);
        refused(StatusBounds::full, "rule, ARM 60", x -> bit(x.rule(4, 60)), 5);
        refused(StatusBounds::full, "lose, WORTH 10, 5 ahead of 7", x -> x.lose(0, 0, 10), 5);
        refused(StatusBounds::full, "come to 60, 5 ahead of 7", x -> x.come(60), 5);
        refused(StatusBounds::full, "pass(1000), 5 ahead of 7", x -> x.pass(1000), 5);
        refused(StatusBounds::fresh, "live, 5 ahead of 8", x -> x.live(10000), 5);
        refused(StatusBounds::fresh, "mean, 5 ahead of 8", x -> bit(x.mean(9999, 2)), 5);
        refused(StatusBounds::fresh, "lived, 5 ahead of 8", x -> x.lived(5), 5);
        refused(StatusBounds::small, "share, 5 ahead of 8", x -> bit(x.share(0, 8, 0)), 5);
        refused(StatusBounds::small, "moveOf, 5 ahead of 8", x -> x.moveOf(0, 1, 0), 5);
        refused(StatusBounds::full, "lawOf, 5 ahead of 8", x -> x.lawOf(0, 2, 2), 5);
        for (int far : new int[] {-1, 10000, MAX, Integer.MIN_VALUE}) {
            refused(StatusBounds::full, "district", x -> x.district(far), 5);
            refused(StatusBounds::full, "days", x -> x.days(far), 5);
            refused(StatusBounds::full, "many", x -> x.many(far), 5);
            refused(StatusBounds::full, "kind", x -> x.kind(0, far), 5);
            refused(StatusBounds::full, "person", x -> x.person(0, far), 5);
            refused(StatusBounds::full, "thing", x -> x.thing(0, far), 5);
            refused(StatusBounds::full, "lose", x -> x.lose(0, 0, far), 5);
            refused(StatusBounds::full, "pass", x -> x.pass(far), 5);
            refused(StatusBounds::full, "move", x -> x.move(0, far), 5);
            refused(StatusBounds::full, "come", x -> x.come(far), 5);
            refused(StatusBounds::full, "rewrite", x -> x.rewrite(0, far, 1), 5);
            refused(StatusBounds::full, "rule", x -> bit(x.rule(far, 1)), 5);
            refused(StatusBounds::full, "walk", x -> x.walk(far, 0), 5);
            refused(StatusBounds::full, "walk", x -> x.walk(0, far), 5);
            refused(StatusBounds::full, "share", x -> bit(x.share(far, 1, 0)), 5);
            refused(StatusBounds::full, "share", x -> bit(x.share(0, far, 0)), 5);
            refused(StatusBounds::full, "game", x -> x.game(0, 1, far), 5);
            refused(StatusBounds::full, "moveOf", x -> x.moveOf(0, 1, far), 5);
            refused(StatusBounds::full, "tongue", x -> bit(x.tongue(far)), 5);
            refused(StatusBounds::full, "live", x -> x.live(far), 5);
            refused(StatusBounds::full, "lived", x -> x.lived(far), 5);
            refused(StatusBounds::full, "mean from", x -> bit(x.mean(far, 1)), 5);
            refused(StatusBounds::full, "mean of", x -> bit(x.mean(0, far)), 5);
            refused(StatusBounds::full, "game of one and himself", x -> x.game(3, 3, 1), 5);
        }
        refused(StatusBounds::full, "laws, n -1", x -> x.laws(0, -1), 5);
        refused(StatusBounds::full, "lawOf, n MIN", x -> x.lawOf(0, Integer.MIN_VALUE, 0), 5);
        refused(StatusBounds::full, "moveOf one and himself", x -> x.moveOf(3, 3, 1), 5);
    }

    private void belowZero() {
        s.says(2, "6 below 0 (a TRAY's length).");
        for (int many : new int[] {-1, -60, Integer.MIN_VALUE}) {
            refused(StatusBounds::full, "tray", x -> bit(x.tray(0, 3, many)), 6);
            refused(StatusBounds::full, "tray that is MISSING", x -> bit(x.tray(3, 3, many)), 6);
            refused(StatusBounds::full, "pour", x -> bit(x.pour(0, 99, 2, -1, many)), 6);
        }
    }

    private void tooMany() {
        s.says(2, "7 one too many.");
        refused(StatusBounds::full, "lose", x -> x.lose(0, 0, 1), 7);
        refused(StatusBounds::full, "pass", x -> x.pass(10), 7);
        refused(StatusBounds::full, "come", x -> x.come(0), 7);
        refused(StatusBounds::full, "mark", ItchParish::mark, 7);
    }

    private void noneThere() {
        s.says(2, "8 there is none.");
        refused(StatusBounds::small, "thing, SCRATCHED", x -> x.thing(0, 7), 8);
        refused(StatusBounds::small, "thing, FOUND", x -> x.thing(0, 8), 8);
        refused(StatusBounds::small, "soonest", x -> x.soonest(0), 8);
        refused(StatusBounds::small, "works", x -> x.works(0), 8);
        refused(StatusBounds::fresh, "ring", ItchParish::ring, 8);
        refused(StatusBounds::small, "whose", x -> bit(x.whose(0, 5, 0)), 8);
        refused(StatusBounds::full, "lawOf", x -> x.lawOf(0, 2, 0), 8);
        refused(StatusBounds::small, "way, k 2", x -> x.way(0, 1, 2), 8);
        refused(StatusBounds::small, "way, k -1", x -> x.way(0, 1, -1), 8);
        refused(StatusBounds::small, "share", x -> bit(x.share(0, 1, 1)), 8);
        refused(StatusBounds::small, "moveOf", x -> x.moveOf(0, 1, 1), 8);
        refused(StatusBounds::fresh, "live", x -> x.live(0), 8);
        refused(StatusBounds::small, "lived", x -> x.lived(0), 8);
        refused(StatusBounds::fresh, "mean", x -> bit(x.mean(0, 1)), 8);
        refused(StatusBounds::small, "back", ItchParish::back, 8);
        refused(StatusBounds::twoAlone, "hands", x -> x.hands(0, 1), 8);
        refused(StatusBounds::twoAlone, "way", x -> x.way(0, 1, 0), 8);
    }

    private static ItchParish twoAlone() {
        return Checks.with("person a home 0;person b home 0;");
    }

    private void canNotBe() {
        s.says(2, "9 it can't be.");
        refused(StatusBounds::small, "scratch, he can't", x -> x.scratch(1, 0), 9);
        refused(StatusBounds::small, "scratch, too FAR", x -> x.scratch(0, 0), 9);
        refused(StatusBounds::full, "teach, he can", x -> bit(x.teach(0, 5, true)), 9);
        refused(StatusBounds::full, "teach, he can't", x -> bit(x.teach(0, 9, false)), 9);
        refused(StatusBounds::notUp, "scratch, not UP", x -> x.scratch(0, 0), 9);
        refused(StatusBounds::scratched, "scratch, SCRATCHED", x -> x.scratch(0, 0), 9);
    }

    private static ItchParish notUp() {
        return Checks.with("arm 59;kind step 1 spot 0;person a home 0;person b home 1;thing a 0;");
    }

    private static ItchParish scratched() {
        ItchParish x = notUp();
        x.pass(1);
        x.scratch(0, 0);
        return x;
    }

    private void faults() {
        s.says(2, "10 a FAULT.");
        for (int n : new int[] {1, 6, 12, 14, 20}) {
            refused(StatusBounds::full, "district(" + n + ")", x -> x.district(n), 10);
            refused(StatusBounds::full, "days(" + n + ")", x -> x.days(n), 10);
        }
        s.says(2, "A call with another STATUS than 0 gives NONE, or false, and changes nothing but STATUS (but district(), days() with 10 the tape, and what fault() tells).");
        ItchParish x = full();
        x.days(0);
        Checks.feed(x, "odds 3;arm 2;a 99999");
        s.due("no FAULT", x.fault(0), 0);
        s.refused("district(20)", x, x.district(20), 10);
        s.due("the FAULT", x.fault(0), 2);
        s.due("its place", x.fault(1), 13);
        s.due("the tape is empty", x.feed(0, 0, 0, 0, 0), 20);
        s.refused("days(20)", x, x.days(20), 10);
        s.due("the FAULT", x.fault(0), 1);
        s.due("its place", x.fault(1), 0);
        s.due("the tape is empty", x.feed(0, 0, 0, 0, 0), 20);
    }

    private void unlike() {
        s.says(2, "11 TRAYS of unlike sorts.");
        refused(StatusBounds::full, "pour", x -> bit(x.pour(0, -1, 1, 99, -1)), 11);
        refused(StatusBounds::full, "pour of none", x -> bit(x.pour(1, 0, 0, 0, 0)), 11);
    }

    private void asking() {
        s.says(2, "0 else.");
        asks("many", x -> x.many(6));
        asks("kind", x -> x.kind(4, 2));
        asks("person", x -> x.person(6, 3));
        asks("thing", x -> x.thing(7, 9));
        asks("far", x -> x.far(0, 6));
        asks("read", x -> x.read(0, 5));
        asks("soonest", x -> x.soonest(0));
        asks("round", ItchParish::round);
        asks("needs", x -> x.needs(0));
        asks(StatusBounds::small, "ring", ItchParish::ring);
        asks(StatusBounds::scratched, "soonest", x -> x.soonest(0));
        asks(() -> Checks.with("kind step 1 spot 0;person a home 0 reach 0;thing a 0;person b home 0;"), "works", x -> x.works(0));
        asks(() -> Checks.with("kind step 1 spot 0;person a home 0 reach 0;thing a 0;person b home 0;"), "moveOf", x -> x.moveOf(0, 1, 4));
        asks("ending", ItchParish::ending);
        asks("endingSet", ItchParish::endingSet);
        asks("couples", x -> x.couples(0, 0));
        asks("whose", x -> bit(x.whose(1, 0, 0)));
        asks("laws", x -> x.laws(0, 2));
        asks("lawOf", x -> x.lawOf(0, 1, 1));
        asks("hands", x -> x.hands(0, 6));
        asks("way", x -> x.way(0, 6, 1));
        asks("signs", x -> x.signs(0, 1));
        asks("walk", x -> x.walk(59, 255));
        asks("share", x -> bit(x.share(59, 255, 0)));
        asks("game", x -> x.game(0, 1, 4));
        asks("tongue", x -> bit(x.tongue(12)));
        asks("lived", x -> x.lived(0));
        s.says(48, "(all stays as it is)");
        asks("mean", x -> bit(x.mean(9980, 20)));
    }

    private void belowNone() {
        s.says(2, "Where a number may be below 0, STATUS tells NONE from -1.");
        ItchParish x = full();
        s.fine("read", x, x.read(2, 1), -1);
        s.refused("read", x, x.read(2, 3), 4);
        ItchParish y = Checks.with("kind step 1 spot 0;person a home 0;person b home 0 reach 0;thing a 0;");
        y.rule(4, 0);
        y.teach(0, 1, true);
        y.lose(1, 0, 1);
        s.fine("game 1 0 1", y, y.game(1, 0, 1), 1);
        y.move(0, 9);
        y.pass(20);
        y.teach(0, 1, false);
        s.fine("game 0 1 2", y, y.game(0, 1, 2), -1);
        s.refused("game 0 1 5", y, y.game(0, 1, 5), 5);
    }
}
