import java.math.BigInteger;
import java.util.ArrayList;
import java.util.Arrays;
import java.util.HashSet;
import java.util.List;
import java.util.Set;
import java.util.TreeSet;
import java.util.regex.Matcher;
import java.util.regex.Pattern;

/** The document once more, in its most roundabout way: all ways, all orders, all sets are tried. */
final class Model {
    /** A STATUS other than 0. */
    static final class Refusal extends RuntimeException {
        final int status;

        Refusal(int status) {
            this.status = status;
        }
    }

    static final class Fault extends RuntimeException {
        final int kind;
        final int place;

        Fault(int kind, int place) {
            this.kind = kind;
            this.place = place;
        }
    }

    record Token(String text, int place) {
    }

    static final class Kind {
        int[] of = new int[3];
    }

    static final class Person {
        String name;
        int home;
        TreeSet<Integer> reach = new TreeSet<>();
    }

    static final class Thing {
        int owner;
        int kind;
        int worth;
        int lost;
        Integer scratched;
        Integer found;
    }

    static final class Step {
        String word;
        String test;
        int person;
        int number;
        List<Step> body = new ArrayList<>();
    }

    static final class State {
        int odds = 4;
        int arm = 5;
        int minute = 0;
        List<Kind> kinds = new ArrayList<>();
        List<Person> people = new ArrayList<>();
        List<Thing> things = new ArrayList<>();
        List<Step> days = null;

        State copy() {
            State c = new State();
            c.odds = odds;
            c.arm = arm;
            c.minute = minute;
            c.days = days;
            for (Kind k : kinds) {
                Kind n = new Kind();
                n.of = k.of.clone();
                c.kinds.add(n);
            }
            for (Person p : people) {
                Person n = new Person();
                n.name = p.name;
                n.home = p.home;
                n.reach.addAll(p.reach);
                c.people.add(n);
            }
            for (Thing t : things) {
                Thing n = new Thing();
                n.owner = t.owner;
                n.kind = t.kind;
                n.worth = t.worth;
                n.lost = t.lost;
                n.scratched = t.scratched;
                n.found = t.found;
                c.things.add(n);
            }
            return c;
        }
    }

    static final Set<String> NO_NAMES = new HashSet<>(Arrays.asList("odds", "arm", "kind", "step", "spot", "weight",
        "person", "home", "reach", "thing", "worth", "lose", "wait", "scratch", "any", "when", "found", "up", "minute",
        "loop", "end", "stop"));

    long[][] trays = new long[4][];
    int[] sorts = new int[4];
    List<Byte> tape = new ArrayList<>();
    State now = new State();
    List<State> marked = new ArrayList<>();
    int status = 0;
    BigInteger top = BigInteger.ZERO;
    BigInteger bottom = BigInteger.ONE;
    int faultKind = -1;
    int faultPlace = -1;
    int[] lived = null;

    static void need(boolean holds, int status) {
        if (!holds) {
            throw new Refusal(status);
        }
    }

    void needPerson(int p) {
        need(p >= 0 && p < now.people.size(), 2);
    }

    void needKind(int k) {
        need(k >= 0 && k < now.kinds.size(), 2);
    }

    void needThing(int t) {
        need(t >= 0 && t < now.things.size(), 2);
    }

    void needSpot(int s) {
        need(s >= 0 && s <= 9, 2);
    }

    void needPlace(int h) {
        need(h >= 0 && h <= 59, 5);
    }

    void tell(BigInteger a, BigInteger b) {
        BigInteger g = a.gcd(b);
        top = a.divide(g);
        bottom = b.divide(g);
    }

    void tell(long a, long b) {
        tell(BigInteger.valueOf(a), BigInteger.valueOf(b));
    }

    // ---- the district's own laws

    static int bearer(State s, int owner, int kind) {
        int at = owner;
        for (int k = 0; k < s.kinds.get(kind).of[0]; k++) {
            at = at + 1 == s.people.size() ? 0 : at + 1;
        }
        return at;
    }

    static int spot(State s, int owner, int kind) {
        return (s.kinds.get(kind).of[1] + owner) % 10;
    }

    static int bearer(State s, Thing t) {
        return bearer(s, t.owner, t.kind);
    }

    static int far(State s, int p, int q) {
        int a = s.people.get(p).home;
        int b = s.people.get(q).home;
        return Math.max(a, b) - Math.min(a, b);
    }

    static int comesUp(State s, Thing t) {
        return t.lost + far(s, bearer(s, t), t.owner);
    }

    static boolean up(State s, Thing t) {
        return t.scratched == null && comesUp(s, t) <= s.minute;
    }

    static boolean found(State s, Thing t) {
        return t.found != null && t.found <= s.minute;
    }

    static TreeSet<Integer> could(State s, Thing t) {
        TreeSet<Integer> could = new TreeSet<>();
        int b = bearer(s, t);
        for (int p = 0; p < s.people.size(); p++) {
            if (p != b && far(s, p, b) <= s.arm) {
                could.add(p);
            }
        }
        if (s.people.get(b).reach.contains(spot(s, t.owner, t.kind))) {
            could.add(b);
        }
        return could;
    }

    static int set(Iterable<Integer> members) {
        int set = 0;
        for (int m : members) {
            set += 1 << m;
        }
        return set;
    }

    interface Is {
        boolean is(Thing t);
    }

    int things(Is is) {
        int set = 0;
        for (int t = 0; t < now.things.size(); t++) {
            set += is.is(now.things.get(t)) ? 1 << t : 0;
        }
        return set;
    }

    // ---- TRAYS

    void needTray(int t) {
        need(t >= 0 && t <= 3, 1);
        need(trays[t] != null, 3);
    }

    boolean tray(int t, int sort, int many) {
        need(t >= 0 && t <= 3 && sort >= 0 && sort <= 3, 1);
        need(many <= 60, 5);
        need(many >= 0, 6);
        trays[t] = new long[many];
        sorts[t] = sort;
        return true;
    }

    boolean write(int t, int place, long v) {
        needTray(t);
        need(place >= 0 && place < trays[t].length, 4);
        int bits = 8 << sorts[t];
        trays[t][place] = v << 64 - bits >> 64 - bits;
        return true;
    }

    long read(int t, int place) {
        needTray(t);
        need(place >= 0 && place < trays[t].length, 4);
        return trays[t][place];
    }

    boolean pour(int t, int i, int to, int j, int many) {
        need(t >= 0 && t <= 3 && to >= 0 && to <= 3, 1);
        need(trays[t] != null && trays[to] != null, 3);
        need(sorts[t] == sorts[to], 11);
        need(many >= 0, 6);
        need(i >= 0 && j >= 0 && (long) i + many <= trays[t].length && (long) j + many <= trays[to].length, 4);
        long[] was = trays[t].clone();
        for (int k = 0; k < many; k++) {
            trays[to][j + k] = was[i + k];
        }
        return true;
    }

    // ---- texts

    int feed(int a, int b, int c, int d, int e) {
        if (tape.size() + 20 > 900) {
            return -1;
        }
        for (int v : new int[] {a, b, c, d, e}) {
            tape.add((byte) (v >>> 24));
            tape.add((byte) (v >>> 16));
            tape.add((byte) (v >>> 8));
            tape.add((byte) v);
        }
        return tape.size();
    }

    static final Pattern PIECES = Pattern.compile("[\\n ]+|[a-z]+|[0-9]+|[;<>=]|.", Pattern.DOTALL);

    List<Token> line;
    int at;

    void tokens(int n) {
        StringBuilder text = new StringBuilder();
        for (int k = 0; k < n; k++) {
            text.append((char) (tape.get(k) & 255));
        }
        tape.clear();
        line = new ArrayList<>();
        at = 0;
        Matcher m = PIECES.matcher(text);
        while (m.find()) {
            if (!m.group().matches("[\\n ]+")) {
                line.add(new Token(m.group(), m.start()));
            }
        }
        line.add(new Token("", n));
    }

    Token here() {
        Token t = line.get(at);
        if (!t.text.matches("|[a-z]+|[0-9]{1,4}|[;<>=]")) {
            throw new Fault(1, t.place);
        }
        return t;
    }

    boolean ends() {
        return line.get(at).text.isEmpty();
    }

    boolean is(String text) {
        return here().text.equals(text);
    }

    Fault fault(int kind) {
        return new Fault(kind, here().place);
    }

    void must(String text) {
        if (!is(text)) {
            throw fault(2);
        }
        at++;
    }

    int number(int least, int most) {
        if (!here().text.matches("[0-9]+")) {
            throw fault(2);
        }
        int n = Integer.parseInt(here().text);
        if (n < least || n > most) {
            throw fault(4);
        }
        at++;
        return n;
    }

    String name() {
        if (!here().text.matches("[a-z]{1,8}") || NO_NAMES.contains(here().text)) {
            throw fault(2);
        }
        return here().text;
    }

    static int named(State s, String name) {
        for (int p = 0; p < s.people.size(); p++) {
            if (name.equals(s.people.get(p).name)) {
                return p;
            }
        }
        return -1;
    }

    int knownPerson(State s) {
        int p = named(s, name());
        if (p < 0) {
            throw fault(3);
        }
        at++;
        return p;
    }

    int district(int n) {
        need(n >= 0 && n <= tape.size(), 5);
        tokens(n);
        try {
            now = districtOf();
        } catch (Fault f) {
            faultKind = f.kind;
            faultPlace = f.place;
            throw new Refusal(10);
        }
        faultKind = 0;
        faultPlace = -1;
        return now.people.size();
    }

    State districtOf() {
        State s = new State();
        Set<String> told = new HashSet<>();
        while (!ends()) {
            String word = here().text;
            switch (word) {
                case "odds":
                case "arm":
                    if (!told.add(word)) {
                        throw fault(5);
                    }
                    at++;
                    if (word.equals("odds")) {
                        s.odds = number(0, 16);
                    } else {
                        s.arm = number(0, 59);
                    }
                    break;
                case "kind":
                    if (s.kinds.size() == 5) {
                        throw fault(6);
                    }
                    at++;
                    Kind k = new Kind();
                    must("step");
                    k.of[0] = number(1, 9);
                    must("spot");
                    k.of[1] = number(0, 9);
                    k.of[2] = 1;
                    if (is("weight")) {
                        at++;
                        k.of[2] = number(1, 9);
                    }
                    s.kinds.add(k);
                    break;
                case "person":
                    if (s.people.size() == 7) {
                        throw fault(6);
                    }
                    at++;
                    Person p = new Person();
                    p.name = name();
                    if (named(s, p.name) >= 0) {
                        throw fault(3);
                    }
                    at++;
                    must("home");
                    p.home = number(0, 59);
                    if (is("reach")) {
                        at++;
                        while (here().text.matches("[0-9]+")) {
                            int before = at;
                            int spot = number(0, 9);
                            if (!p.reach.add(spot)) {
                                at = before;
                                throw fault(5);
                            }
                        }
                    }
                    s.people.add(p);
                    break;
                case "thing":
                    if (s.things.size() == 8) {
                        throw fault(6);
                    }
                    at++;
                    Thing t = new Thing();
                    t.owner = knownPerson(s);
                    t.kind = number(0, s.kinds.size() - 1);
                    t.worth = 1;
                    if (is("worth")) {
                        at++;
                        t.worth = number(1, 9);
                    }
                    s.things.add(t);
                    break;
                default:
                    throw fault(2);
            }
            must(";");
        }
        return s;
    }

    int steps;

    int days(int n) {
        need(n >= 0 && n <= tape.size() && n <= 300, 5);
        tokens(n);
        steps = 0;
        try {
            now.days = stepsOf(0);
        } catch (Fault f) {
            faultKind = f.kind;
            faultPlace = f.place;
            throw new Refusal(10);
        }
        faultKind = 0;
        faultPlace = -1;
        return steps;
    }

    List<Step> stepsOf(int within) {
        List<Step> list = new ArrayList<>();
        while (true) {
            if (ends()) {
                if (within > 0) {
                    throw fault(2);
                }
                return list;
            }
            if (is("end")) {
                if (within == 0) {
                    throw fault(2);
                }
                at++;
                must(";");
                return list;
            }
            Step s = new Step();
            s.word = here().text;
            if (!Arrays.asList("wait", "lose", "scratch", "any", "when", "loop", "stop").contains(s.word)) {
                throw fault(2);
            }
            if (++steps > 30) {
                throw fault(6);
            }
            boolean holds = s.word.equals("when") || s.word.equals("loop");
            if (holds && within == 3) {
                throw fault(7);
            }
            at++;
            stepRest(s);
            must(";");
            if (holds) {
                s.body = stepsOf(within + 1);
            }
            list.add(s);
        }
    }

    void stepRest(Step s) {
        if (s.word.equals("wait") || s.word.equals("loop")) {
            s.number = number(1, 99);
        } else if (s.word.equals("lose")) {
            s.person = knownPerson(now);
            s.number = number(0, now.kinds.size() - 1);
        } else if (s.word.equals("scratch")) {
            s.person = knownPerson(now);
            s.number = number(0, 7);
        } else if (s.word.equals("when")) {
            s.test = here().text;
            if (s.test.equals("minute")) {
                at++;
                s.test = here().text;
                if (!s.test.matches("[<>=]")) {
                    throw fault(2);
                }
                at++;
                s.number = number(0, 9999);
            } else {
                if (!s.test.equals("found") && !s.test.equals("up")) {
                    throw fault(2);
                }
                at++;
                s.number = number(0, 7);
            }
        }
    }

    int fault(long what) {
        return what == 0 ? faultKind : what == 1 ? faultPlace : -1;
    }

    int many(int what) {
        need(what >= 0 && what <= 8, 5);
        return new int[] {now.kinds.size(), now.people.size(), now.things.size(), now.odds, now.arm, now.minute,
            things(t -> up(now, t)), things(t -> t.scratched != null), things(t -> found(now, t))}[what];
    }

    int kind(int kind, int what) {
        needKind(kind);
        need(what >= 0 && what <= 2, 5);
        return now.kinds.get(kind).of[what];
    }

    int person(int p, int what) {
        needPerson(p);
        need(what >= 0 && what <= 3, 5);
        return what == 0 ? now.people.get(p).home
            : what == 1 ? set(now.people.get(p).reach)
            : what == 2 ? things(t -> up(now, t) && bearer(now, t) == p)
            : things(t -> t.owner == p);
    }

    int thing(int n, int what) {
        needThing(n);
        need(what >= 0 && what <= 9, 5);
        Thing t = now.things.get(n);
        need(what != 7 && what != 8 || t.scratched != null, 8);
        switch (what) {
            case 0:
                return t.owner;
            case 1:
                return t.kind;
            case 2:
                return t.worth;
            case 3:
                return t.lost;
            case 4:
                return bearer(now, t);
            case 5:
                return spot(now, t.owner, t.kind);
            case 6:
                return comesUp(now, t);
            case 7:
                return t.scratched;
            case 8:
                return t.found;
            default:
                return set(could(now, t));
        }
    }

    int far(int p, int q) {
        needPerson(p);
        needPerson(q);
        return far(now, p, q);
    }

    int copyHomes(int t) {
        needTray(t);
        need(trays[t].length >= now.people.size(), 4);
        for (int p = 0; p < now.people.size(); p++) {
            write(t, p, now.people.get(p).home);
        }
        return now.people.size();
    }

    // ---- what is done

    static boolean lose(State s, int p, int k, int worth) {
        if (s.things.size() == 8) {
            return false;
        }
        Thing t = new Thing();
        t.owner = p;
        t.kind = k;
        t.worth = worth;
        t.lost = s.minute;
        s.things.add(t);
        return true;
    }

    static boolean pass(State s, int minutes) {
        if (s.minute + minutes > 9999) {
            return false;
        }
        s.minute += minutes;
        return true;
    }

    static boolean scratch(State s, int p, int n) {
        if (n >= s.things.size()) {
            return false;
        }
        Thing t = s.things.get(n);
        if (!up(s, t) || !could(s, t).contains(p)) {
            return false;
        }
        t.scratched = s.minute;
        t.found = s.minute + far(s, bearer(s, t), t.owner);
        return true;
    }

    int lose(int p, int k, int worth) {
        needPerson(p);
        needKind(k);
        need(worth >= 1 && worth <= 9, 5);
        need(lose(now, p, k, worth), 7);
        return now.things.size() - 1;
    }

    int pass(int minutes) {
        need(minutes >= 1 && minutes <= 999, 5);
        need(pass(now, minutes), 7);
        return many(6);
    }

    int scratch(int p, int n) {
        needPerson(p);
        needThing(n);
        need(scratch(now, p, n), 9);
        return now.things.get(n).found;
    }

    boolean teach(int p, int spot, boolean is) {
        needPerson(p);
        needSpot(spot);
        Set<Integer> reach = now.people.get(p).reach;
        need(is ? reach.add(spot) : reach.remove(spot), 9);
        return true;
    }

    int move(int p, int home) {
        needPerson(p);
        needPlace(home);
        int was = now.people.get(p).home;
        now.people.get(p).home = home;
        return was;
    }

    int come(int home) {
        needPlace(home);
        need(now.people.size() < 7, 7);
        Person p = new Person();
        p.home = home;
        now.people.add(p);
        return now.people.size() - 1;
    }

    int rewrite(int k, int what, int much) {
        needKind(k);
        need(what >= 0 && what <= 2 && much <= 9 && much >= (what == 1 ? 0 : 1), 5);
        int was = now.kinds.get(k).of[what];
        now.kinds.get(k).of[what] = much;
        return was;
    }

    boolean rule(int what, int much) {
        need((what == 3 || what == 4) && much >= 0 && much <= (what == 3 ? 16 : 59), 5);
        if (what == 3) {
            now.odds = much;
        } else {
            now.arm = much;
        }
        return true;
    }

    // ---- who scratches what

    int soonest(int n) {
        needThing(n);
        Thing t = now.things.get(n);
        if (t.found != null) {
            return t.found;
        }
        need(!could(now, t).isEmpty(), 8);
        int minute = now.minute;
        while (minute < comesUp(now, t)) {
            minute++;
        }
        return minute + far(now, bearer(now, t), t.owner);
    }

    List<Integer> bestRound;
    int bestCount;

    // All ways in the order of the document: the first of those with the most is the one.
    void rounds(List<Integer> ahead) {
        int n = ahead.size();
        if (n == now.things.size()) {
            int count = 0;
            for (int p : ahead) {
                count += p < 99 ? 1 : 0;
            }
            if (bestRound == null || count > bestCount) {
                bestRound = new ArrayList<>(ahead);
                bestCount = count;
            }
            return;
        }
        Thing t = now.things.get(n);
        List<Integer> choices = new ArrayList<>();
        if (up(now, t)) {
            choices.addAll(could(now, t));
        }
        choices.add(99);
        for (int p : choices) {
            if (p == 99 || !ahead.contains(p)) {
                ahead.add(p);
                rounds(ahead);
                ahead.remove(n);
            }
        }
    }

    int round() {
        bestRound = null;
        rounds(new ArrayList<>());
        return bestCount;
    }

    int works(int n) {
        needThing(n);
        round();
        need(bestRound.get(n) != 99, 8);
        return bestRound.get(n);
    }

    // ---- rings

    int needs(int p) {
        needPerson(p);
        TreeSet<Integer> needs = new TreeSet<>();
        for (Thing t : now.things) {
            if (t.owner == p && t.scratched == null) {
                needs.add(bearer(now, t));
            }
        }
        return set(needs);
    }

    // The shortest path that goes on from here to where it began, by all paths.
    int ringFrom(List<Integer> path, int without) {
        int best = 99;
        for (int n = 0; n < now.things.size(); n++) {
            Thing t = now.things.get(n);
            if ((without >> n & 1) != 0 || t.scratched != null || t.owner != path.get(path.size() - 1)) {
                continue;
            }
            int b = bearer(now, t);
            if (b == path.get(0)) {
                best = Math.min(best, path.size());
            } else if (!path.contains(b)) {
                path.add(b);
                best = Math.min(best, ringFrom(path, without));
                path.remove(path.size() - 1);
            }
        }
        return best;
    }

    int ringWithout(int without) {
        int best = 99;
        for (int p = 0; p < now.people.size(); p++) {
            best = Math.min(best, ringFrom(new ArrayList<>(List.of(p)), without));
        }
        return best;
    }

    int ring() {
        need(ringWithout(0) != 99, 8);
        return ringWithout(0);
    }

    int endingSet() {
        for (int count = 0; count <= 8; count++) {
            for (int set = 0; set < 256; set++) {
                int open = things(t -> t.scratched == null);
                if (Integer.bitCount(set) == count && (set & open) == set && ringWithout(set) == 99) {
                    return set;
                }
            }
        }
        throw new IllegalStateException();
    }

    int ending() {
        return Integer.bitCount(endingSet());
    }

    // ---- whose it is

    int couples(int p, int spot) {
        needPerson(p);
        needSpot(spot);
        int count = 0;
        for (int o = 0; o < now.people.size(); o++) {
            for (int k = 0; k < now.kinds.size(); k++) {
                count += bearer(now, o, k) == p && spot(now, o, k) == spot ? 1 : 0;
            }
        }
        return count;
    }

    boolean whose(int p, int spot, int owner) {
        needPerson(owner);
        need(couples(p, spot) > 0, 8);
        long all = 0;
        long his = 0;
        for (int o = 0; o < now.people.size(); o++) {
            for (int k = 0; k < now.kinds.size(); k++) {
                if (bearer(now, o, k) == p && spot(now, o, k) == spot) {
                    all += now.kinds.get(k).of[2];
                    his += o == owner ? now.kinds.get(k).of[2] : 0;
                }
            }
        }
        tell(his, all);
        return true;
    }

    List<int[]> lawsOf(int t, int n) {
        needTray(t);
        need((long) n * 3 <= trays[t].length, 4);
        need(n >= 0 && n <= 15, 5);
        int people = now.people.size();
        for (int k = 0; k < n; k++) {
            for (int c = 0; c < 3; c++) {
                long v = trays[t][3 * k + c];
                need(v >= 0 && v < (c == 2 ? 10 : people), 5);
            }
        }
        List<int[]> laws = new ArrayList<>();
        for (int step = 1; step <= 9; step++) {
            for (int spot = 0; spot <= 9; spot++) {
                boolean fits = true;
                for (int k = 0; k < n; k++) {
                    long o = trays[t][3 * k];
                    fits &= (o + step) % people == trays[t][3 * k + 1] && (o + spot) % 10 == trays[t][3 * k + 2];
                }
                if (fits) {
                    laws.add(new int[] {step, spot});
                }
            }
        }
        return laws;
    }

    int laws(int t, int n) {
        return lawsOf(t, n).size();
    }

    int lawOf(int t, int n, int what) {
        List<int[]> laws = lawsOf(t, n);
        need(what == 0 || what == 1, 5);
        need(!laws.isEmpty(), 8);
        return laws.get(0)[what];
    }

    // ---- hands

    boolean goes(int p, int q) {
        for (int k = 0; k < now.kinds.size(); k++) {
            if (bearer(now, p, k) == q) {
                return true;
            }
        }
        return false;
    }

    List<Integer> bestWay;

    // All paths in the order of PEOPLE: the first of the shortest is the one.
    void ways(List<Integer> path, int other) {
        int last = path.get(path.size() - 1);
        if (last == other) {
            if (bestWay == null || path.size() < bestWay.size()) {
                bestWay = new ArrayList<>(path);
            }
            return;
        }
        for (int q = 0; q < now.people.size(); q++) {
            if (goes(last, q) && !path.contains(q)) {
                path.add(q);
                ways(path, other);
                path.remove(path.size() - 1);
            }
        }
    }

    int hands(int p, int q) {
        needPerson(p);
        needPerson(q);
        bestWay = null;
        ways(new ArrayList<>(List.of(p)), q);
        need(bestWay != null, 8);
        return bestWay.size() - 1;
    }

    int way(int p, int q, int k) {
        hands(p, q);
        need(k >= 0 && k < bestWay.size(), 8);
        return bestWay.get(k);
    }

    int signs(int p, int q) {
        needPerson(p);
        needPerson(q);
        Set<Integer> spots = new HashSet<>();
        for (int k = 0; k < now.kinds.size(); k++) {
            if (bearer(now, p, k) == q) {
                spots.add(spot(now, p, k));
            }
        }
        return spots.size();
    }

    // ---- walks

    void needSet(int things) {
        need(things >= 0 && things < 1 << now.things.size(), 5);
    }

    int walkAll(int place, TreeSet<Integer> homes) {
        int best = homes.isEmpty() ? 0 : 9999;
        for (int home : homes) {
            TreeSet<Integer> rest = new TreeSet<>();
            // What lies on the way is seen as he goes by.
            for (int other : homes) {
                if (other < Math.min(place, home) || other > Math.max(place, home)) {
                    rest.add(other);
                }
            }
            best = Math.min(best, Math.abs(place - home) + walkAll(home, rest));
        }
        return best;
    }

    int walkOf(int place, int things) {
        TreeSet<Integer> homes = new TreeSet<>();
        for (int t = 0; t < now.things.size(); t++) {
            if ((things >> t & 1) != 0) {
                homes.add(now.people.get(bearer(now, now.things.get(t))).home);
            }
        }
        return walkAll(place, homes);
    }

    int walk(int place, int things) {
        needPlace(place);
        needSet(things);
        return walkOf(place, things);
    }

    int[] walkMemo;
    long orders;
    long sum;

    void allOrders(int place, int things, int come, int thing) {
        if (come == things) {
            orders++;
            return;
        }
        for (int t = 0; t < 8; t++) {
            if ((things >> t & 1) == 0 || (come >> t & 1) != 0) {
                continue;
            }
            long before = orders;
            allOrders(place, things, come | 1 << t, thing);
            if (t == thing) {
                sum += (orders - before) * (memo(place, come | 1 << t) - memo(place, come));
            }
        }
    }

    int memo(int place, int set) {
        if (walkMemo[set] < 0) {
            walkMemo[set] = walkOf(place, set);
        }
        return walkMemo[set];
    }

    boolean share(int place, int things, int thing) {
        needThing(thing);
        needPlace(place);
        needSet(things);
        need((things >> thing & 1) != 0, 8);
        walkMemo = new int[256];
        Arrays.fill(walkMemo, -1);
        orders = 0;
        sum = 0;
        allOrders(place, things, 0, thing);
        tell(sum, orders);
        return true;
    }

    // ---- games, odds

    int[] play(int[] who, int turn, int turns, Set<Integer> gone) {
        if (turn == turns) {
            return new int[] {0, -1};
        }
        int me = turn % 2;
        int[] best = null;
        for (int n = 0; n <= now.things.size(); n++) {
            boolean nothing = n == now.things.size();
            if (!nothing) {
                Thing t = now.things.get(n);
                if (gone.contains(n) || !up(now, t) || !could(now, t).contains(who[me])) {
                    continue;
                }
            }
            Set<Integer> then = new HashSet<>(gone);
            then.add(n);
            int worth = nothing ? 0 : now.things.get(n).worth;
            int value = play(who, turn + 1, turns, then)[0] + (me == 0 ? worth : -worth);
            if (best == null || (me == 0 ? value > best[0] : value < best[0])) {
                best = new int[] {value, nothing ? -1 : n};
            }
        }
        return best;
    }

    int game(int p, int q, int turns) {
        needPerson(p);
        needPerson(q);
        need(p != q && turns >= 0 && turns <= 4, 5);
        return play(new int[] {p, q}, 0, turns, Set.of())[0];
    }

    int moveOf(int p, int q, int turns) {
        needPerson(p);
        needPerson(q);
        need(p != q && turns >= 1 && turns <= 4, 5);
        int move = play(new int[] {p, q}, 0, turns, Set.of())[1];
        need(move >= 0, 8);
        return move;
    }

    boolean tongue(int n) {
        need(n >= 0 && n <= 12, 5);
        BigInteger not = BigInteger.valueOf(16 - now.odds).pow(n);
        BigInteger all = BigInteger.valueOf(16).pow(n);
        tell(all.subtract(not), all);
        return true;
    }

    // ---- DAYS

    static final class Over extends RuntimeException {
    }

    static final class Run {
        final State s;
        long drawn;
        int come = 0;
        int missed = 0;
        int minutes = 0;
        int lost = 0;
        int scratched = 0;
        int left = 0;

        Run(State s, int seed) {
            this.s = s;
            drawn = seed;
            try {
                all(s.days);
            } catch (Over over) {
                // as far as it came
            }
        }

        int draw(int n) {
            drawn = (drawn * 2971 + 10957) % 65536;
            return (int) (drawn / 8 % n);
        }

        void all(List<Step> list) {
            for (Step step : list) {
                if (come == 300) {
                    left = 1;
                    throw new Over();
                }
                come++;
                one(step);
            }
        }

        void one(Step step) {
            switch (step.word) {
                case "stop":
                    throw new Over();
                case "loop":
                    for (int k = 0; k < step.number; k++) {
                        all(step.body);
                    }
                    break;
                case "when":
                    if (holds(step)) {
                        all(step.body);
                    }
                    break;
                case "wait":
                    waits(step.number);
                    break;
                case "lose":
                    if (lose(s, step.person, step.number, 1)) {
                        lost++;
                    } else {
                        missed++;
                    }
                    break;
                case "scratch":
                    scratches(step.person, step.number);
                    break;
                default:
                    if (s.people.isEmpty() || s.things.isEmpty()) {
                        missed++;
                        break;
                    }
                    int p = draw(s.people.size());
                    int t = draw(s.things.size());
                    if (draw(16) < s.odds) {
                        scratches(p, t);
                    } else {
                        waits(1);
                    }
            }
        }

        void waits(int n) {
            if (pass(s, n)) {
                minutes += n;
            } else {
                missed++;
            }
        }

        void scratches(int p, int t) {
            if (scratch(s, p, t)) {
                scratched++;
            } else {
                missed++;
            }
        }

        boolean holds(Step step) {
            switch (step.test) {
                case "found":
                    return step.number < s.things.size() && found(s, s.things.get(step.number));
                case "up":
                    return step.number < s.things.size() && up(s, s.things.get(step.number));
                case "<":
                    return s.minute < step.number;
                case ">":
                    return s.minute > step.number;
                default:
                    return s.minute == step.number;
            }
        }
    }

    int live(int seed) {
        need(seed >= 0 && seed <= 9999, 5);
        need(now.days != null, 8);
        Run run = new Run(now, seed);
        lived = new int[] {run.missed, run.minutes, run.lost, run.scratched, run.left};
        return run.come;
    }

    int lived(int what) {
        need(what >= 0 && what <= 4, 5);
        need(lived != null, 8);
        return lived[what];
    }

    boolean mean(int seed, int many) {
        need(many >= 1 && many <= 20 && seed >= 0 && (long) seed + many - 1 <= 9999, 5);
        need(now.days != null, 8);
        long sum = 0;
        for (int k = 0; k < many; k++) {
            State then = now.copy();
            new Run(then, seed + k);
            for (Thing t : then.things) {
                sum += found(then, t) ? 1 : 0;
            }
        }
        tell(sum, many);
        return true;
    }

    int mark() {
        need(marked.size() < 3, 7);
        marked.add(now.copy());
        return marked.size();
    }

    int back() {
        need(!marked.isEmpty(), 8);
        now = marked.remove(marked.size() - 1);
        return marked.size();
    }
}
