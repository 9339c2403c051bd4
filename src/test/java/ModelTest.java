import java.util.Random;
import java.util.function.LongSupplier;

/** Many runs of calls drawn from fixed seeds, each answered by the program and by the Model alike. */
public final class ModelTest {
    private static final Checks CHECKS = new Checks("ModelTest");
    private static final int CALLS = 511;
    private static final String[] WORDS = {"odds", "arm", "kind", "step", "spot", "weight", "person", "home", "reach", "thing",
        "worth", "lose", "wait", "scratch", "any", "when", "found", "up", "minute", "loop", "end", "stop", "al", "bo", "ninthword", ";", "<",
        "=", ">", "0", "7", "9", "10", "59", "60", "99", "9999", "00000", "!", "\n", ""};
    private static final String[] NAMES = {"al", "bo", "cy", "di", "ed", "flo", "gustavus"};

    private final Random random;
    private final ItchParish x = new ItchParish();
    private final Model m = new Model();
    private String call = "";

    private ModelTest(long seed) {
        random = new Random(seed);
    }

    public static void main(String[] args) {
        int runs = args.length > 0 ? Integer.parseInt(args[0]) : 1200;
        for (int run = 0; run < runs; run++) {
            new ModelTest(run).all(run);
        }
        CHECKS.end();
    }

    private int below(int n) {
        return random.nextInt(n);
    }

    private boolean chance(int percent) {
        return below(100) < percent;
    }

    // Mostly from 0 to n - 1; now and then just outside, or far.
    private int about(int n) {
        int draw = below(60);
        if (draw == 0) {
            return -1;
        }
        if (draw == 1) {
            return n;
        }
        if (draw == 2) {
            return new int[] {Integer.MIN_VALUE, Integer.MAX_VALUE, n + 1, -2, 1 << 30}[below(5)];
        }
        return below(Math.max(1, n));
    }

    private void all(int run) {
        int calls = run % 3 == 0 ? 0 : trays() + fullDistrict();
        calls += run % 7 == 1 ? late() : 0;
        while (calls < CALLS) {
            calls += one();
            String what = "run " + run + " call " + calls + " " + call;
            CHECKS.due(what + " status", x.status(), m.status);
            CHECKS.due(what + " top", x.top(), m.top.longValueExact());
            CHECKS.due(what + " bottom", x.bottom(), m.bottom.longValueExact());
            CHECKS.due(what + " fault 0", x.fault(0), m.faultKind);
            CHECKS.due(what + " fault 1", x.fault(1), m.faultPlace);
        }
    }

    private int trays() {
        for (int t = 0; t < 4; t++) {
            int tray = t;
            int sort = below(4);
            int length = chance(50) ? 60 : below(30);
            alike("tray", bit(x.tray(tray, sort, length)), () -> bit(m.tray(tray, sort, length)), 0);
        }
        return 4;
    }

    // Near the last MINUTE, where what would go beyond it is MISSED.
    private int late() {
        for (int k = 0; k < 10; k++) {
            int minutes = k < 9 ? 999 : 900 + below(99);
            alike("pass " + minutes, x.pass(minutes), () -> m.pass(minutes), -1);
        }
        return 10;
    }

    private static long bit(boolean is) {
        return is ? 1 : 0;
    }

    private void alike(String name, long got, LongSupplier model, long refused) {
        long want;
        try {
            want = model.getAsLong();
            m.status = 0;
        } catch (Model.Refusal refusal) {
            want = refused;
            m.status = refusal.status;
        }
        call = name;
        CHECKS.due(name, got, want);
    }

    private String nameOrOther() {
        int draw = below(100);
        return draw < 98 && !m.now.people.isEmpty() ? NAMES[below(m.now.people.size())]
            : draw < 99 ? NAMES[below(NAMES.length)] : WORDS[below(WORDS.length)];
    }

    private String districtText() {
        StringBuilder s = new StringBuilder();
        if (chance(70)) {
            s.append("odds ").append(below(17)).append(" ;");
        }
        if (chance(70)) {
            s.append("arm ").append(chance(50) ? below(60) : below(12)).append(';');
        }
        int kinds = 1 + below(5);
        for (int k = 0; k < kinds; k++) {
            s.append("kind step ").append(1 + below(9)).append(" spot ").append(below(10));
            s.append(chance(50) ? " weight " + (1 + below(9)) : "").append(';').append(chance(20) ? "\n" : "");
        }
        int people = 1 + below(7);
        int wide = chance(50) ? 60 : 6;
        for (int p = 0; p < people; p++) {
            s.append("person ").append(NAMES[p]).append(" home ").append(below(wide));
            if (chance(60)) {
                s.append(" reach");
                for (int spot = 0; spot < 10; spot++) {
                    s.append(chance(40) ? " " + spot : "");
                }
            }
            s.append(';');
        }
        int things = below(9);
        for (int t = 0; t < things; t++) {
            s.append("thing ").append(NAMES[below(people)]).append(' ').append(below(kinds));
            s.append(chance(50) ? " worth " + (1 + below(9)) : "").append(chance(10) ? " ;" : ";");
        }
        return s.toString();
    }

    private void steps(StringBuilder s, int depth) {
        int count = below(depth == 0 ? 9 : 4);
        for (int k = 0; k < count; k++) {
            switch (below(chance(96) ? 9 : 10)) {
                case 0:
                    s.append("wait ").append(1 + below(chance(80) ? 20 : 99)).append(';');
                    break;
                case 1:
                    s.append("lose ").append(nameOrOther()).append(' ')
                        .append(chance(98) ? below(Math.max(1, m.now.kinds.size())) : below(5)).append(';');
                    break;
                case 2:
                case 3:
                    s.append("scratch ").append(nameOrOther()).append(' ').append(below(8)).append("; ");
                    break;
                case 4:
                case 5:
                case 6:
                    s.append("any;");
                    break;
                case 7:
                    s.append("when ").append(chance(40) ? "found " + below(8) : chance(50) ? "up " + below(8)
                        : "minute " + "<>=".charAt(below(3))
                        + Math.max(0, m.now.minute + below(60) - 20)).append(';');
                    rest(s, depth);
                    break;
                case 8:
                    s.append("loop ").append(1 + below(chance(80) ? 5 : 99)).append(';');
                    rest(s, depth);
                    break;
                default:
                    s.append("stop;");
            }
        }
    }

    private void rest(StringBuilder s, int depth) {
        if (depth < 3 || chance(3)) {
            steps(s, depth + 1);
        }
        s.append("end;");
    }

    // A text with something else in it, or not whole.
    private String spoilt(String text) {
        StringBuilder s = new StringBuilder(text);
        int changes = 1 + below(2);
        for (int k = 0; k < changes && s.length() > 0; k++) {
            int at = below(s.length());
            switch (below(5)) {
                case 0:
                    s.setLength(at);
                    break;
                case 1:
                    s.deleteCharAt(at);
                    break;
                case 2:
                    s.insert(at, WORDS[below(WORDS.length)]);
                    break;
                case 3:
                    int blank = s.indexOf(" ", at);
                    s.insert(blank < 0 ? 0 : blank, " " + WORDS[below(WORDS.length)]);
                    break;
                default:
                    s.setCharAt(at, (char) (chance(50) ? below(256) : "abz059;<=> \n".charAt(below(12))));
            }
        }
        return s.toString();
    }

    private int feed(String text) {
        int calls = 0;
        for (int at = 0; at < text.length(); at += 20) {
            int[] v = new int[5];
            for (int k = 0; k < 20; k++) {
                int sign = at + k < text.length() ? text.charAt(at + k) : ' ';
                v[k / 4] = v[k / 4] << 8 | sign & 255;
            }
            CHECKS.due("feed", x.feed(v[0], v[1], v[2], v[3], v[4]), m.feed(v[0], v[1], v[2], v[3], v[4]));
            calls++;
        }
        return calls;
    }

    private int fullDistrict() {
        String text = districtText();
        text = chance(30) ? spoilt(text) : text;
        int calls = feed(text);
        int n = chance(97) ? text.length() : about(900);
        alike("district(" + n + ") " + text, x.district(n), () -> m.district(n), -1);
        return calls + 1;
    }

    private int fullDays() {
        StringBuilder s = new StringBuilder();
        steps(s, 0);
        String text = chance(30) ? spoilt(s.toString()) : s.toString();
        if (text.length() > 300 && chance(80)) {
            text = text.substring(0, 300);
        }
        int calls = feed(text);
        int n = chance(97) ? text.length() : about(320);
        alike("days(" + n + ") " + text, x.days(n), () -> m.days(n), -1);
        return calls + 1;
    }

    private int one() {
        switch (below(14)) {
            case 0:
                return chance(m.now.people.isEmpty() ? 90 : 25) ? fullDistrict() : fullDays();
            case 1:
                return trayCall();
            case 2:
            case 3:
            case 4:
                return deed();
            case 5:
                return lifeCall();
            default:
                return question();
        }
    }

    private int trayCall() {
        int t = about(4);
        int to = about(4);
        int place = about(12);
        int j = about(12);
        int many = about(20);
        long v = chance(80) ? below(12) : random.nextLong() >> below(64);
        switch (below(7)) {
            case 0:
                int sort = about(4);
                int length = chance(80) ? below(61) : about(61);
                alike("tray", bit(x.tray(t, sort, length)), () -> bit(m.tray(t, sort, length)), 0);
                break;
            case 1:
                alike("read", x.read(t, place), () -> m.read(t, place), -1);
                break;
            case 2:
                alike("pour", bit(x.pour(t, place, to, j, many)), () -> bit(m.pour(t, place, to, j, many)), 0);
                break;
            case 3:
                alike("copyHomes", x.copyHomes(t), () -> m.copyHomes(t), -1);
                break;
            default:
                alike("write", bit(x.write(t, place, v)), () -> bit(m.write(t, place, v)), 0);
        }
        return 1;
    }

    private int deed() {
        int p = about(m.now.people.size());
        int k = about(m.now.kinds.size());
        int t = about(m.now.things.size());
        int n = about(60);
        int ten = about(10);
        switch (below(chance(90) ? 9 : 10)) {
            case 0:
            case 1:
                alike("lose", x.lose(p, k, ten), () -> m.lose(p, k, ten), -1);
                break;
            case 2:
            case 3:
                int minutes = chance(95) ? about(50) : about(1000);
                alike("pass " + minutes, x.pass(minutes), () -> m.pass(minutes), -1);
                break;
            case 4:
                alike("scratch " + p + " " + t, x.scratch(p, t), () -> m.scratch(p, t), -1);
                break;
            case 5:
                boolean is = chance(50);
                alike("teach", bit(x.teach(p, ten, is)), () -> bit(m.teach(p, ten, is)), 0);
                break;
            case 6:
                alike("move", x.move(p, n), () -> m.move(p, n), -1);
                break;
            case 7:
                int what = about(3);
                alike("rewrite", x.rewrite(k, what, ten), () -> m.rewrite(k, what, ten), -1);
                break;
            case 8:
                int odds = 3 + about(2);
                int much = about(odds == 3 ? 17 : 60);
                alike("rule", bit(x.rule(odds, much)), () -> bit(m.rule(odds, much)), 0);
                break;
            default:
                alike("come", x.come(n), () -> m.come(n), -1);
        }
        return 1;
    }

    private int lifeCall() {
        int seed = about(10000);
        int many = about(21);
        int what = about(5);
        switch (below(6)) {
            case 0:
                alike("live " + seed, x.live(seed), () -> m.live(seed), -1);
                break;
            case 1:
                alike("mean " + seed + " " + many, bit(x.mean(seed, many)), () -> bit(m.mean(seed, many)), 0);
                break;
            case 2:
                alike("mark", x.mark(), m::mark, -1);
                break;
            case 3:
                alike("back", x.back(), m::back, -1);
                break;
            default:
                alike("lived " + what, x.lived(what), () -> m.lived(what), -1);
        }
        return 1;
    }

    private int question() {
        int p = about(m.now.people.size());
        int q = about(m.now.people.size());
        int t = about(m.now.things.size());
        int place = about(60);
        int things = about(1 << m.now.things.size());
        int spot = about(10);
        int few = about(5);
        switch (below(25)) {
            case 0:
                int many = about(9);
                alike("many " + many, x.many(many), () -> m.many(many), -1);
                break;
            case 1:
                int k = about(m.now.kinds.size());
                alike("kind", x.kind(k, few), () -> m.kind(k, few), -1);
                break;
            case 2:
                alike("person " + p + " " + few, x.person(p, few), () -> m.person(p, few), -1);
                break;
            case 3:
            case 4:
                alike("thing " + t + " " + spot, x.thing(t, spot), () -> m.thing(t, spot), -1);
                break;
            case 5:
                alike("far", x.far(p, q), () -> m.far(p, q), -1);
                break;
            case 6:
                alike("soonest " + t, x.soonest(t), () -> m.soonest(t), -1);
                break;
            case 7:
                alike("round", x.round(), m::round, -1);
                break;
            case 8:
            case 9:
                alike("works " + t, x.works(t), () -> m.works(t), -1);
                break;
            case 10:
                alike("needs " + p, x.needs(p), () -> m.needs(p), -1);
                break;
            case 11:
                alike("ring", x.ring(), m::ring, -1);
                break;
            case 12:
                alike("ending", x.ending(), m::ending, -1);
                break;
            case 13:
                alike("endingSet", x.endingSet(), m::endingSet, -1);
                break;
            case 14:
                alike("couples", x.couples(p, spot), () -> m.couples(p, spot), -1);
                break;
            case 15:
                alike("whose", bit(x.whose(p, spot, q)), () -> bit(m.whose(p, spot, q)), 0);
                break;
            case 16:
                alike("laws", x.laws(few, t), () -> m.laws(few, t), -1);
                break;
            case 17:
                lawCall(about(4), about(3), about(2));
                break;
            case 18:
                alike("hands " + p + " " + q, x.hands(p, q), () -> m.hands(p, q), -1);
                break;
            case 19:
                alike("way " + p + " " + q + " " + few, x.way(p, q, few), () -> m.way(p, q, few), -1);
                break;
            case 20:
                alike("signs " + p + " " + q, x.signs(p, q), () -> m.signs(p, q), -1);
                break;
            case 21:
                alike("walk " + place + " " + things, x.walk(place, things), () -> m.walk(place, things), -1);
                break;
            case 22:
                shareCall(place, things, t);
                break;
            case 23:
                alike("game " + p + " " + q + " " + few, x.game(p, q, few), () -> m.game(p, q, few), -1);
                alike("moveOf " + p + " " + q + " " + few, x.moveOf(p, q, few), () -> m.moveOf(p, q, few), -1);
                return 2;
            default:
                int n = about(13);
                alike("tongue " + n, bit(x.tongue(n)), () -> bit(m.tongue(n)), 0);
        }
        return 1;
    }

    private void shareCall(int place, int things, int t) {
        int set = chance(70) && t >= 0 && t < 8 ? things | 1 << t : things;
        alike("share " + place + " " + set + " " + t, bit(x.share(place, set, t)), () -> bit(m.share(place, set, t)), 0);
    }

    // Threes by a law, mostly, so that some fit.
    private void lawCall(int t, int n, int what) {
        int step = 1 + below(9);
        int spot = below(10);
        for (int k = 0; k < n && k < 5 && chance(80) && !m.now.people.isEmpty(); k++) {
            int owner = below(m.now.people.size());
            long[] three = {owner, (owner + step) % m.now.people.size(), (owner + spot) % 10};
            for (int c = 0; c < 3; c++) {
                int place = 3 * k + c;
                long v = three[c];
                alike("write", bit(x.write(t, place, v)), () -> bit(m.write(t, place, v)), 0);
            }
        }
        alike("lawOf " + t + " " + n + " " + what, x.lawOf(t, n, what), () -> m.lawOf(t, n, what), -1);
    }
}
