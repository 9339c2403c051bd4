/** A district in which an itch is always someone else's: ../shared/DOC.md says what each call promises. */
public final class ItchParish {
    public static final int NONE = -1;

    private static final int NO_TRAY = 1;
    private static final int NO_SUCH = 2;
    private static final int MISSING = 3;
    private static final int NO_PLACE = 4;
    private static final int BAD_NUMBER = 5;
    private static final int BELOW_ZERO = 6;
    private static final int TOO_MANY = 7;
    private static final int NONE_THERE = 8;
    private static final int CAN_NOT_BE = 9;
    private static final int FAULTY = 10;
    private static final int UNLIKE_SORTS = 11;

    private static final int MOST_MARKS = 3;
    private static final int LAST_SEED = 9999;

    private final Rows rows = new Rows();
    private final Tape tape = new Tape();
    private final Parish parish = new Parish();
    private final Plan plan = new Plan();
    // What is read or tried out stands here first, so that a FAULT leaves the DISTRICT and the DAYS as they were.
    private final Parish spareParish = new Parish();
    private final Plan sparePlan = new Plan();
    private final DistrictReader districtReader = new DistrictReader(tape, spareParish);
    private final PlanReader planReader = new PlanReader(tape, sparePlan, parish);
    private final Parish[] markedParishes = {new Parish(), new Parish(), new Parish()};
    private final Plan[] markedPlans = {new Plan(), new Plan(), new Plan()};
    private final Life life = new Life();
    // mean() lives here, so that lived() goes on telling of live().
    private final Life trialLife = new Life();
    private final Work work = new Work();
    private final Arrows arrows = new Arrows();
    private int marks = 0;
    private int status = 0;
    private long fractionTop = 0;
    private long fractionBottom = 1;

    public ItchParish() {
    }

    public int status() {
        return status;
    }

    public long top() {
        return fractionTop;
    }

    public long bottom() {
        return fractionBottom;
    }

    // ---- TRAYS

    public boolean tray(int tray, int sort, int many) {
        status = !rows.isTray(tray) || !rows.isSort(sort) ? NO_TRAY
            : many > Rows.LONGEST ? BAD_NUMBER
            : many < 0 ? BELOW_ZERO : 0;
        if (status == 0) {
            rows.make(tray, sort, many);
        }
        return status == 0;
    }

    public boolean write(int tray, int place, long v) {
        status = placeStatus(tray, place);
        if (status == 0) {
            rows.put(tray, place, v);
        }
        return status == 0;
    }

    public long read(int tray, int place) {
        status = placeStatus(tray, place);
        return status == 0 ? rows.numberAt(tray, place) : NONE;
    }

    private int placeStatus(int tray, int place) {
        return !rows.isTray(tray) ? NO_TRAY
            : !rows.isThere(tray) ? MISSING
            : !rows.hasPlaces(tray, place, 1) ? NO_PLACE : 0;
    }

    public boolean pour(int tray, int i, int to, int j, int many) {
        status = !rows.isTray(tray) || !rows.isTray(to) ? NO_TRAY
            : !rows.isThere(tray) || !rows.isThere(to) ? MISSING
            : rows.sortOf(tray) != rows.sortOf(to) ? UNLIKE_SORTS
            : many < 0 ? BELOW_ZERO
            : !rows.hasPlaces(tray, i, many) || !rows.hasPlaces(to, j, many) ? NO_PLACE : 0;
        if (status == 0) {
            rows.transfer(tray, i, to, j, many);
        }
        return status == 0;
    }

    // ---- texts

    public int feed(int a, int b, int c, int d, int e) {
        if (!tape.hasRoomFor(20)) {
            return NONE;
        }
        tape.append(a);
        tape.append(b);
        tape.append(c);
        tape.append(d);
        tape.append(e);
        return tape.size();
    }

    public int district(int n) {
        status = n < 0 || n > tape.size() ? BAD_NUMBER : 0;
        if (status != 0) {
            return NONE;
        }
        tape.open(n);
        if (districtReader.takeAll()) {
            parish.copyFrom(spareParish);
            plan.forget();
        } else {
            status = FAULTY;
        }
        tape.wipe();
        return status == 0 ? parish.people() : NONE;
    }

    public int days(int n) {
        status = n < 0 || n > tape.size() || n > Plan.LONGEST_TEXT ? BAD_NUMBER : 0;
        if (status != 0) {
            return NONE;
        }
        tape.open(n);
        if (planReader.takeAll()) {
            plan.copyFrom(sparePlan);
        } else {
            status = FAULTY;
        }
        tape.wipe();
        return status == 0 ? plan.steps() : NONE;
    }

    public int fault(int what) {
        return what == 0 ? tape.faultKind() : what == 1 ? tape.faultPlace() : NONE;
    }

    public int many(int what) {
        status = what < 0 || what > 8 ? BAD_NUMBER : 0;
        switch (what) {
            case 0:
                return parish.kinds();
            case 1:
                return parish.people();
            case 2:
                return parish.things();
            case 3:
                return parish.odds();
            case 4:
                return parish.arm();
            case 5:
                return parish.minute();
            case 6:
                return parish.upSet();
            case 7:
                return parish.scratchedSet();
            case 8:
                return parish.foundSet();
            default:
                return NONE;
        }
    }

    public int kind(int kind, int what) {
        status = !parish.hasKind(kind) ? NO_SUCH : what < 0 || what > 2 ? BAD_NUMBER : 0;
        return status == 0 ? parish.ofKind(kind, what) : NONE;
    }

    public int person(int person, int what) {
        status = !parish.hasPerson(person) ? NO_SUCH : what < 0 || what > 3 ? BAD_NUMBER : 0;
        if (status != 0) {
            return NONE;
        }
        switch (what) {
            case 0:
                return parish.homeOf(person);
            case 1:
                return parish.reachOf(person);
            case 2:
                return parish.upSetOn(person);
            default:
                return parish.ownSetOf(person);
        }
    }

    public int thing(int thing, int what) {
        status = !parish.hasThing(thing) ? NO_SUCH
            : what < 0 || what > 9 ? BAD_NUMBER
            : (what == 7 || what == 8) && !parish.isScratched(thing) ? NONE_THERE : 0;
        if (status != 0) {
            return NONE;
        }
        switch (what) {
            case 0:
                return parish.ownerOf(thing);
            case 1:
                return parish.kindOf(thing);
            case 2:
                return parish.worthOf(thing);
            case 3:
                return parish.lostAtOf(thing);
            case 4:
                return parish.bearerOf(thing);
            case 5:
                return parish.spotOf(thing);
            case 6:
                return parish.upAtOf(thing);
            case 7:
                return parish.scratchedAtOf(thing);
            case 8:
                return parish.foundAtOf(thing);
            default:
                return parish.ableSetFor(thing);
        }
    }

    public int far(int person, int other) {
        status = coupleStatus(person, other);
        return status == 0 ? parish.apart(person, other) : NONE;
    }

    private int coupleStatus(int person, int other) {
        return parish.hasPerson(person) && parish.hasPerson(other) ? 0 : NO_SUCH;
    }

    public int copyHomes(int tray) {
        int people = parish.people();
        status = !rows.isTray(tray) ? NO_TRAY
            : !rows.isThere(tray) ? MISSING
            : !rows.hasPlaces(tray, 0, people) ? NO_PLACE : 0;
        if (status != 0) {
            return NONE;
        }
        for (int person = 0; person < people; person++) {
            rows.put(tray, person, parish.homeOf(person));
        }
        return people;
    }

    // ---- what is done

    public int lose(int person, int kind, int worth) {
        status = !parish.hasPerson(person) || !parish.hasKind(kind) ? NO_SUCH
            : worth < 1 || worth > Parish.MOST_WORTH ? BAD_NUMBER
            : parish.things() >= Parish.MOST_THINGS ? TOO_MANY : 0;
        return status == 0 ? parish.addThing(person, kind, worth) : NONE;
    }

    public int pass(int minutes) {
        status = minutes < 1 || minutes > 999 ? BAD_NUMBER : !parish.canWait(minutes) ? TOO_MANY : 0;
        if (status != 0) {
            return NONE;
        }
        parish.goOn(minutes);
        return parish.upSet();
    }

    public int scratch(int person, int thing) {
        status = !parish.hasPerson(person) || !parish.hasThing(thing) ? NO_SUCH
            : !parish.canScratchNow(person, thing) ? CAN_NOT_BE : 0;
        if (status != 0) {
            return NONE;
        }
        parish.endItch(thing);
        return parish.foundAtOf(thing);
    }

    public boolean teach(int person, int spot, boolean is) {
        status = !parish.hasPerson(person) || !parish.isSpot(spot) ? NO_SUCH
            : parish.reaches(person, spot) == is ? CAN_NOT_BE : 0;
        if (status == 0) {
            parish.toggleReach(person, spot);
        }
        return status == 0;
    }

    public int move(int person, int home) {
        status = !parish.hasPerson(person) ? NO_SUCH : !parish.isHome(home) ? BAD_NUMBER : 0;
        if (status != 0) {
            return NONE;
        }
        int was = parish.homeOf(person);
        parish.settle(person, home);
        return was;
    }

    public int come(int home) {
        status = !parish.isHome(home) ? BAD_NUMBER
            : parish.people() >= Parish.MOST_PEOPLE ? TOO_MANY : 0;
        return status == 0 ? parish.addPerson(Parish.NO_NAME, home, 0) : NONE;
    }

    public int rewrite(int kind, int what, int much) {
        status = !parish.hasKind(kind) ? NO_SUCH : !parish.isForKind(what, much) ? BAD_NUMBER : 0;
        if (status != 0) {
            return NONE;
        }
        int was = parish.ofKind(kind, what);
        parish.changeKind(kind, what, much);
        return was;
    }

    public boolean rule(int what, int much) {
        boolean isOdds = what == 3 && much >= 0 && much <= Parish.MOST_ODDS;
        boolean isArm = what == 4 && much >= 0 && much <= Parish.LAST_HOME;
        status = isOdds || isArm ? 0 : BAD_NUMBER;
        if (isOdds) {
            parish.setOdds(much);
        }
        if (isArm) {
            parish.setArm(much);
        }
        return status == 0;
    }

    // ---- who scratches what

    public int soonest(int thing) {
        status = !parish.hasThing(thing) ? NO_SUCH
            : !parish.isScratched(thing) && parish.ableSetFor(thing) == 0 ? NONE_THERE : 0;
        return status == 0 ? parish.soonestFound(thing) : NONE;
    }

    public int round() {
        status = 0;
        return work.assign(parish);
    }

    public int works(int thing) {
        status = parish.hasThing(thing) ? 0 : NO_SUCH;
        if (status != 0) {
            return NONE;
        }
        work.assign(parish);
        int worker = work.workerOn(thing);
        status = worker == NONE ? NONE_THERE : 0;
        return worker;
    }

    // ---- rings

    public int needs(int person) {
        status = parish.hasPerson(person) ? 0 : NO_SUCH;
        if (status != 0) {
            return NONE;
        }
        arrows.drawNeeds(parish, 0);
        return arrows.from(person);
    }

    public int ring() {
        arrows.drawNeeds(parish, 0);
        int length = arrows.shortestRing();
        status = length == NONE ? NONE_THERE : 0;
        return length;
    }

    public int ending() {
        status = 0;
        return Integer.bitCount(arrows.leastEnding(parish));
    }

    public int endingSet() {
        status = 0;
        return arrows.leastEnding(parish);
    }

    // ---- whose it is

    public int couples(int person, int spot) {
        status = parish.hasPerson(person) && parish.isSpot(spot) ? 0 : NO_SUCH;
        return status == 0 ? Clues.countCouples(parish, person, spot) : NONE;
    }

    public boolean whose(int person, int spot, int owner) {
        status = !parish.hasPerson(person) || !parish.isSpot(spot) || !parish.hasPerson(owner) ? NO_SUCH
            : Clues.countCouples(parish, person, spot) == 0 ? NONE_THERE : 0;
        if (status != 0) {
            return false;
        }
        int all = 0;
        for (int other = 0; other < parish.people(); other++) {
            all += Clues.weightOf(parish, person, spot, other);
        }
        tell(Clues.weightOf(parish, person, spot, owner), all);
        return true;
    }

    public int laws(int tray, int n) {
        status = lawStatus(tray, n);
        return status == 0 ? Clues.countLaws(parish, rows, tray, n) : NONE;
    }

    public int lawOf(int tray, int n, int what) {
        status = lawStatus(tray, n);
        if (status == 0 && what != 0 && what != 1) {
            status = BAD_NUMBER;
        }
        if (status != 0) {
            return NONE;
        }
        int first = Clues.firstLaw(parish, rows, tray, n);
        status = first == NONE ? NONE_THERE : 0;
        return first == NONE ? NONE : what == 0 ? first / Parish.SPOTS : first % Parish.SPOTS;
    }

    private int lawStatus(int tray, int n) {
        return !rows.isTray(tray) ? NO_TRAY
            : !rows.isThere(tray) ? MISSING
            : n > rows.lengthOf(tray) / 3 ? NO_PLACE
            : n < 0 || n > Clues.MOST_THREES || !Clues.areThrees(parish, rows, tray, n) ? BAD_NUMBER : 0;
    }

    // ---- hands

    public int hands(int person, int other) {
        status = coupleStatus(person, other);
        if (status != 0) {
            return NONE;
        }
        arrows.drawKinds(parish);
        arrows.measureTo(other);
        int steps = arrows.stepsFrom(person);
        status = steps == NONE ? NONE_THERE : 0;
        return steps;
    }

    public int way(int person, int other, int k) {
        status = coupleStatus(person, other);
        if (status != 0) {
            return NONE;
        }
        arrows.drawKinds(parish);
        arrows.measureTo(other);
        int passed = arrows.passedBy(person, k);
        status = passed == NONE ? NONE_THERE : 0;
        return passed;
    }

    public int signs(int person, int other) {
        status = coupleStatus(person, other);
        return status == 0 ? Integer.bitCount(Clues.spotSet(parish, person, other)) : NONE;
    }

    // ---- walks

    public int walk(int place, int things) {
        status = parish.isHome(place) && parish.isThingSet(things) ? 0 : BAD_NUMBER;
        return status == 0 ? Walks.cost(parish, place, things) : NONE;
    }

    public boolean share(int place, int things, int thing) {
        status = !parish.hasThing(thing) ? NO_SUCH
            : !parish.isHome(place) || !parish.isThingSet(things) ? BAD_NUMBER
            : (things >> thing & 1) == 0 ? NONE_THERE : 0;
        if (status == 0) {
            tell(Walks.shareOfAllOrders(parish, place, things, thing), Walks.orders(Integer.bitCount(things)));
        }
        return status == 0;
    }

    // ---- games, odds

    public int game(int person, int other, int turns) {
        status = gameStatus(person, other, turns, 0);
        return status == 0 ? work.gameWorth(parish, person, other, turns) : NONE;
    }

    public int moveOf(int person, int other, int turns) {
        status = gameStatus(person, other, turns, 1);
        if (status != 0) {
            return NONE;
        }
        int first = work.firstMove(parish, person, other, turns);
        status = first == NONE ? NONE_THERE : 0;
        return first;
    }

    private int gameStatus(int person, int other, int turns, int fewest) {
        return coupleStatus(person, other) != 0 ? NO_SUCH
            : person == other || turns < fewest || turns > Work.MOST_TURNS ? BAD_NUMBER : 0;
    }

    public boolean tongue(int n) {
        status = n < 0 || n > 12 ? BAD_NUMBER : 0;
        if (status != 0) {
            return false;
        }
        long all = 1;
        long missed = 1;
        for (int minute = 0; minute < n; minute++) {
            all *= Parish.MOST_ODDS;
            missed *= Parish.MOST_ODDS - parish.odds();
        }
        tell(all - missed, all);
        return true;
    }

    private void tell(long top, long bottom) {
        long divisor = bottom;
        long rest = top;
        // A pair of longs takes Euclid fewer than a hundred divisions.
        for (int division = 0; division < 200 && rest != 0; division++) {
            long next = divisor % rest;
            divisor = rest;
            rest = next;
        }
        if (divisor != 0) {
            fractionTop = top / divisor;
            fractionBottom = bottom / divisor;
        }
    }

    // ---- DAYS

    public int live(int seed) {
        status = seed < 0 || seed > LAST_SEED ? BAD_NUMBER : !plan.isThere() ? NONE_THERE : 0;
        if (status != 0) {
            return NONE;
        }
        life.run(plan, parish, seed);
        return life.steps();
    }

    public int lived(int what) {
        status = what < 0 || what > 4 ? BAD_NUMBER : !life.wasRun() ? NONE_THERE : 0;
        return status == 0 ? life.tally(what) : NONE;
    }

    public boolean mean(int seed, int many) {
        status = seed < 0 || many < 1 || many > 20 || seed > LAST_SEED + 1 - many ? BAD_NUMBER
            : !plan.isThere() ? NONE_THERE : 0;
        if (status != 0) {
            return false;
        }
        long found = 0;
        for (int k = 0; k < many; k++) {
            spareParish.copyFrom(parish);
            trialLife.run(plan, spareParish, seed + k);
            found += Integer.bitCount(spareParish.foundSet());
        }
        tell(found, many);
        return true;
    }

    // ---- MARKS

    public int mark() {
        status = marks >= MOST_MARKS ? TOO_MANY : 0;
        if (status != 0) {
            return NONE;
        }
        markedParishes[marks].copyFrom(parish);
        markedPlans[marks].copyFrom(plan);
        marks++;
        return marks;
    }

    public int back() {
        status = marks <= 0 ? NONE_THERE : 0;
        if (status != 0) {
            return NONE;
        }
        marks--;
        parish.copyFrom(markedParishes[marks]);
        plan.copyFrom(markedPlans[marks]);
        return marks;
    }

    /** The TRAYS, all in one row of numbers made once. */
    private static final class Rows {
        static final int LONGEST = 60;
        private static final int TRAYS = 4;
        private static final int SORTS = 4;

        private final long[] numbers = new long[TRAYS * LONGEST];
        private final int[] sorts = new int[TRAYS];
        private final int[] lengths = {NONE, NONE, NONE, NONE};

        boolean isTray(int tray) {
            return tray >= 0 && tray < TRAYS;
        }

        boolean isSort(int sort) {
            return sort >= 0 && sort < SORTS;
        }

        boolean isThere(int tray) {
            return isTray(tray) && lengths[tray] != NONE;
        }

        int lengthOf(int tray) {
            return isThere(tray) ? lengths[tray] : 0;
        }

        int sortOf(int tray) {
            return isThere(tray) ? sorts[tray] : NONE;
        }

        boolean hasPlaces(int tray, int place, int count) {
            return isThere(tray) && place >= 0 && count >= 0 && count <= lengths[tray]
                && place <= lengths[tray] - count;
        }

        void make(int tray, int sort, int length) {
            if (!isTray(tray) || !isSort(sort) || length < 0 || length > LONGEST) {
                return;
            }
            sorts[tray] = sort;
            lengths[tray] = length;
            for (int place = 0; place < LONGEST; place++) {
                numbers[tray * LONGEST + place] = 0;
            }
        }

        long numberAt(int tray, int place) {
            return hasPlaces(tray, place, 1) ? numbers[tray * LONGEST + place] : NONE;
        }

        void put(int tray, int place, long number) {
            if (hasPlaces(tray, place, 1)) {
                numbers[tray * LONGEST + place] = cut(sorts[tray], number);
            }
        }

        private long cut(int sort, long number) {
            switch (sort) {
                case 0:
                    return (byte) number;
                case 1:
                    return (short) number;
                case 2:
                    return (int) number;
                default:
                    return number;
            }
        }

        void transfer(int tray, int place, int to, int toPlace, int count) {
            if (hasPlaces(tray, place, count) && hasPlaces(to, toPlace, count)) {
                System.arraycopy(numbers, tray * LONGEST + place, numbers, to * LONGEST + toPlace, count);
            }
        }
    }

    /** The tape, and the reading of its first bytes, TOKEN by TOKEN, to the first FAULT. */
    private static final class Tape {
        private static final int LONGEST = 900;
        private static final int LONGEST_NAME = 8;
        private static final int LONGEST_NUMBER = 4;

        // What a TOKEN is: one of these, or a SIGN by its byte, or a word by its place among the WORDS.
        private static final int TEXT_END = 0;
        private static final int STRANGE = 1;
        private static final int NUMBER = 2;
        private static final int NAME = 3;
        private static final int LONG_WORD = 4;

        static final int ODDS = 100;
        static final int ARM = 101;
        static final int KIND = 102;
        static final int STEP = 103;
        static final int SPOT = 104;
        static final int WEIGHT = 105;
        static final int PERSON = 106;
        static final int HOME = 107;
        static final int REACH = 108;
        static final int THING = 109;
        static final int WORTH = 110;
        static final int LOSE = 111;
        static final int WAIT = 112;
        static final int SCRATCH = 113;
        static final int ANY = 114;
        static final int WHEN = 115;
        static final int FOUND = 116;
        static final int UP = 117;
        static final int MINUTE = 118;
        static final int LOOP = 119;
        static final int END = 120;
        static final int STOP = 121;
        // In the order of the numbers above; the last blank closes a word, as the others do.
        private static final String WORDS = "odds arm kind step spot weight person home reach thing worth lose wait scratch any when found up minute loop end stop ";
        private static final int HOW_MANY_WORDS = STOP - ODDS + 1;

        private final long[] wordCodes = new long[HOW_MANY_WORDS];
        private final byte[] bytes = new byte[LONGEST];
        private int size = 0;
        // One TOKEN more than there are bytes: the text's end.
        private final int[] sorts = new int[LONGEST + 1];
        private final int[] places = new int[LONGEST + 1];
        private final long[] values = new long[LONGEST + 1];
        private int tokens = 0;
        private int at = 0;
        private int faultKind = NONE;
        private int faultPlace = NONE;

        Tape() {
            int word = 0;
            for (int k = 0; k < WORDS.length() && word < HOW_MANY_WORDS; k++) {
                if (WORDS.charAt(k) == ' ') {
                    word++;
                } else {
                    wordCodes[word] = withLetter(wordCodes[word], WORDS.charAt(k));
                }
            }
        }

        int size() {
            return size;
        }

        int faultKind() {
            return faultKind;
        }

        int faultPlace() {
            return faultPlace;
        }

        boolean hasRoomFor(int count) {
            return count <= LONGEST - size;
        }

        void append(int four) {
            for (int shift = 24; shift >= 0; shift -= 8) {
                if (size < LONGEST) {
                    bytes[size] = (byte) (four >> shift);
                    size++;
                }
            }
        }

        void wipe() {
            size = 0;
        }

        // ---- from bytes to TOKENS

        void open(int length) {
            int limit = Math.max(0, Math.min(length, size));
            tokens = 0;
            at = 0;
            faultKind = 0;
            faultPlace = NONE;
            int place = 0;
            // Each round goes on by a byte at least.
            for (int round = 0; round < LONGEST && place < limit; round++) {
                place = isBlank(bytes[place]) ? place + 1 : takeToken(place, limit);
            }
            add(TEXT_END, limit, 0);
        }

        // The place behind the TOKEN.
        private int takeToken(int place, int limit) {
            if (place < 0 || place >= limit || limit > LONGEST) {
                return limit;
            }
            int sign = bytes[place];
            if (isLetter(sign)) {
                return takeWord(place, limit);
            }
            if (isDigit(sign)) {
                return takeDigits(place, limit);
            }
            add(sign == ';' || sign == '<' || sign == '>' || sign == '=' ? sign : STRANGE, place, 0);
            return place + 1;
        }

        private int takeWord(int place, int limit) {
            long code = 0;
            int behind = place;
            while (behind < limit && isLetter(bytes[behind])) {
                code = behind - place < LONGEST_NAME ? withLetter(code, bytes[behind]) : NONE;
                behind++;
            }
            int sort = code == NONE ? LONG_WORD : NAME;
            for (int word = 0; word < HOW_MANY_WORDS; word++) {
                sort = wordCodes[word] == code ? ODDS + word : sort;
            }
            add(sort, place, code);
            return behind;
        }

        private int takeDigits(int place, int limit) {
            int number = 0;
            int behind = place;
            while (behind < limit && isDigit(bytes[behind])) {
                number = behind - place < LONGEST_NUMBER ? number * 10 + bytes[behind] - '0' : 0;
                behind++;
            }
            add(behind - place > LONGEST_NUMBER ? STRANGE : NUMBER, place, number);
            return behind;
        }

        private void add(int sort, int place, long value) {
            if (tokens <= LONGEST) {
                sorts[tokens] = sort;
                places[tokens] = place;
                values[tokens] = value;
                tokens++;
            }
        }

        private static boolean isLetter(int sign) {
            return sign >= 'a' && sign <= 'z';
        }

        private static boolean isDigit(int sign) {
            return sign >= '0' && sign <= '9';
        }

        private static boolean isBlank(int sign) {
            return sign == 10 || sign == 32;
        }

        // Five bits a letter, none of them 0: no two words of up to eight letters have one code.
        private static long withLetter(long code, int letter) {
            return code * 32 + (letter - 'a' + 1);
        }

        // ---- TOKENS, one by one

        int sortHere() {
            return at >= 0 && at < tokens ? sorts[at] : TEXT_END;
        }

        private long valueHere() {
            return at >= 0 && at < tokens ? values[at] : 0;
        }

        void next() {
            if (at < tokens - 1) {
                at++;
            }
        }

        boolean isAtEnd() {
            return sortHere() == TEXT_END;
        }

        boolean isAtNumber() {
            return sortHere() == NUMBER;
        }

        boolean isAtNumberOf(int set) {
            long number = valueHere();
            return isAtNumber() && number >= 0 && number < 31 && (set >> (int) number & 1) != 0;
        }

        /** The code of the NAME that stands here, or NONE. */
        long nameHere() {
            return sortHere() == NAME ? valueHere() : NONE;
        }

        /** The PERSON whose NAME stands here, or NONE with a FAULT told. */
        int takePersonOf(Parish parish) {
            long name = nameHere();
            int person = name == NONE || parish == null ? NONE : parish.personNamed(name);
            if (person == NONE) {
                refuse(name == NONE ? 2 : 3);
                return NONE;
            }
            next();
            return person;
        }

        /** Tells a FAULT of the TOKEN here; what begins no TOKEN has the least kind, whatever else it is. */
        boolean refuse(int kind) {
            faultKind = sortHere() == STRANGE ? 1 : kind;
            faultPlace = at >= 0 && at < tokens ? places[at] : 0;
            return false;
        }

        boolean take(int sort) {
            if (sortHere() != sort) {
                return refuse(2);
            }
            next();
            return true;
        }

        /** The NUMBER here, or NONE with a FAULT told. */
        int takeNumber(int least, int most) {
            long number = valueHere();
            if (sortHere() != NUMBER || number < least || number > most) {
                refuse(sortHere() == NUMBER ? 4 : 2);
                return NONE;
            }
            next();
            return (int) number;
        }
    }

    /** Reads a DISTRICT from the tape. */
    private static final class DistrictReader {
        private final Tape tape;
        private final Parish parish;
        // A bit for each word that may be told but once.
        private int told = 0;

        DistrictReader(Tape from, Parish into) {
            tape = from;
            parish = into;
        }

        boolean takeAll() {
            told = 0;
            parish.clear();
            for (int part = 0; part < Tape.LONGEST && !tape.isAtEnd(); part++) {
                if (!takePart() || !tape.take(';')) {
                    return false;
                }
            }
            return true;
        }

        private boolean takePart() {
            switch (tape.sortHere()) {
                case Tape.ODDS:
                    return takeRule(Tape.ODDS, Parish.MOST_ODDS);
                case Tape.ARM:
                    return takeRule(Tape.ARM, Parish.LAST_HOME);
                case Tape.KIND:
                    return takeKind();
                case Tape.PERSON:
                    return takePerson();
                case Tape.THING:
                    return takeThing();
                default:
                    return tape.refuse(2);
            }
        }

        private boolean takeRule(int word, int most) {
            int bit = 1 << word - Tape.ODDS;
            if ((told & bit) != 0) {
                return tape.refuse(5);
            }
            told |= bit;
            tape.next();
            int much = tape.takeNumber(0, most);
            if (word == Tape.ODDS) {
                parish.setOdds(much);
            } else {
                parish.setArm(much);
            }
            return much != NONE;
        }

        private boolean takeKind() {
            if (parish.kinds() >= Parish.MOST_KINDS) {
                return tape.refuse(6);
            }
            tape.next();
            int step = tape.take(Tape.STEP) ? tape.takeNumber(1, Parish.MOST_STEP) : NONE;
            if (step == NONE) {
                return false;
            }
            int spot = tape.take(Tape.SPOT) ? tape.takeNumber(0, Parish.SPOTS - 1) : NONE;
            if (spot == NONE) {
                return false;
            }
            int weight = takePerhaps(Tape.WEIGHT, Parish.MOST_WEIGHT);
            if (weight == NONE) {
                return false;
            }
            parish.addKind(step, spot, weight);
            return true;
        }

        // 1 without the word; NONE with a FAULT told.
        private int takePerhaps(int word, int most) {
            if (tape.sortHere() != word) {
                return 1;
            }
            tape.next();
            return tape.takeNumber(1, most);
        }

        private boolean takePerson() {
            if (parish.people() >= Parish.MOST_PEOPLE) {
                return tape.refuse(6);
            }
            tape.next();
            long name = tape.nameHere();
            if (name == NONE) {
                return tape.refuse(2);
            }
            if (parish.personNamed(name) != NONE) {
                return tape.refuse(3);
            }
            tape.next();
            int home = tape.take(Tape.HOME) ? tape.takeNumber(0, Parish.LAST_HOME) : NONE;
            if (home == NONE) {
                return false;
            }
            int reach = takeReach();
            if (reach == NONE) {
                return false;
            }
            parish.addPerson(name, home, reach);
            return true;
        }

        private int takeReach() {
            int reach = 0;
            if (tape.sortHere() != Tape.REACH) {
                return reach;
            }
            tape.next();
            // An eleventh SPOT is told already, or none.
            for (int k = 0; k <= Parish.SPOTS && tape.isAtNumber(); k++) {
                if (tape.isAtNumberOf(reach)) {
                    tape.refuse(5);
                    return NONE;
                }
                int spot = tape.takeNumber(0, Parish.SPOTS - 1);
                if (spot == NONE) {
                    return NONE;
                }
                reach |= 1 << spot;
            }
            return reach;
        }

        private boolean takeThing() {
            if (parish.things() >= Parish.MOST_THINGS) {
                return tape.refuse(6);
            }
            tape.next();
            int owner = tape.takePersonOf(parish);
            if (owner == NONE) {
                return false;
            }
            int kind = tape.takeNumber(0, parish.kinds() - 1);
            if (kind == NONE) {
                return false;
            }
            int worth = takePerhaps(Tape.WORTH, Parish.MOST_WORTH);
            if (worth == NONE) {
                return false;
            }
            parish.addThing(owner, kind, worth);
            return true;
        }
    }

    /** Reads DAYS from the tape. */
    private static final class PlanReader {
        private static final int DEEPEST = 3;

        private final Tape tape;
        private final Plan plan;
        private final Parish parish;
        private final int[] begins = new int[DEEPEST];
        private int depth = 0;

        PlanReader(Tape from, Plan into, Parish by) {
            tape = from;
            plan = into;
            parish = by;
        }

        boolean takeAll() {
            depth = 0;
            plan.begin();
            for (int line = 0; line < Tape.LONGEST && !tape.isAtEnd(); line++) {
                boolean isTaken = tape.sortHere() == Tape.END ? takeEnd() : takeStep();
                if (!isTaken || !tape.take(';')) {
                    return false;
                }
            }
            return depth == 0 || tape.refuse(2);
        }

        private boolean takeEnd() {
            if (depth <= 0 || depth > DEEPEST) {
                return tape.refuse(2);
            }
            tape.next();
            depth--;
            plan.addEnd(begins[depth]);
            return true;
        }

        private boolean takeStep() {
            int deed = tape.sortHere();
            if (!isDeed(deed)) {
                return tape.refuse(2);
            }
            if (plan.steps() >= Plan.MOST_STEPS) {
                return tape.refuse(6);
            }
            boolean isOpened = deed == Tape.WHEN || deed == Tape.LOOP;
            if (isOpened && depth >= DEEPEST) {
                return tape.refuse(7);
            }
            if (isOpened && depth >= 0) {
                begins[depth] = plan.lines();
                depth++;
            }
            tape.next();
            return takeRest(deed);
        }

        private static boolean isDeed(int sort) {
            return sort == Tape.WAIT || sort == Tape.LOSE || sort == Tape.SCRATCH || sort == Tape.ANY
                || sort == Tape.WHEN || sort == Tape.LOOP || sort == Tape.STOP;
        }

        private boolean takeRest(int deed) {
            switch (deed) {
                case Tape.WAIT:
                case Tape.LOOP:
                    return takeCount(deed);
                case Tape.LOSE:
                    return takeDeedOf(deed, parish.kinds() - 1);
                case Tape.SCRATCH:
                    return takeDeedOf(deed, Parish.MOST_THINGS - 1);
                case Tape.WHEN:
                    return takeTest(deed);
                default:
                    plan.addStep(deed, 0, 0);
                    return true;
            }
        }

        private boolean takeCount(int deed) {
            int count = tape.takeNumber(1, 99);
            plan.addStep(deed, count, 0);
            return count != NONE;
        }

        private boolean takeDeedOf(int deed, int most) {
            int person = tape.takePersonOf(parish);
            if (person == NONE) {
                return false;
            }
            int number = tape.takeNumber(0, most);
            plan.addStep(deed, person, number);
            return number != NONE;
        }

        private boolean takeTest(int deed) {
            int test = tape.sortHere();
            if (test != Tape.FOUND && test != Tape.UP && test != Tape.MINUTE) {
                return tape.refuse(2);
            }
            tape.next();
            int most = Parish.MOST_THINGS - 1;
            if (test == Tape.MINUTE) {
                test = tape.sortHere();
                most = Parish.LAST_MINUTE;
                if (test != '<' && test != '>' && test != '=') {
                    return tape.refuse(2);
                }
                tape.next();
            }
            int number = tape.takeNumber(0, most);
            plan.addStep(deed, test, number);
            return number != NONE;
        }
    }

    /** DAYS: a line for each STEP and each end; a beginning and its end know one another's line. */
    private static final class Plan {
        static final int LONGEST_TEXT = 300;
        static final int MOST_STEPS = 30;
        // Each STEP may bring an end.
        static final int MOST_LINES = 2 * MOST_STEPS;

        // What is done is told by the words of the tape, a test by its word or its SIGN.
        private final int[] deeds = new int[MOST_LINES];
        private final int[] firsts = new int[MOST_LINES];
        private final int[] seconds = new int[MOST_LINES];
        private final int[] mates = new int[MOST_LINES];
        private int lines = 0;
        private int steps = 0;
        private boolean isThere = false;

        boolean isThere() {
            return isThere;
        }

        int lines() {
            return lines;
        }

        int steps() {
            return steps;
        }

        void forget() {
            lines = 0;
            steps = 0;
            isThere = false;
        }

        void begin() {
            forget();
            isThere = true;
        }

        void addStep(int deed, int first, int second) {
            if (addLine(deed, first, second, NONE)) {
                steps++;
            }
        }

        void addEnd(int beginning) {
            int end = lines;
            if (beginning >= 0 && beginning < end && addLine(Tape.END, 0, 0, beginning)) {
                mates[beginning] = end;
            }
        }

        private boolean addLine(int deed, int first, int second, int mate) {
            if (lines >= MOST_LINES) {
                return false;
            }
            deeds[lines] = deed;
            firsts[lines] = first;
            seconds[lines] = second;
            mates[lines] = mate;
            lines++;
            return true;
        }

        private boolean hasLine(int line) {
            return line >= 0 && line < lines;
        }

        int deedAt(int line) {
            return hasLine(line) ? deeds[line] : Tape.STOP;
        }

        int firstAt(int line) {
            return hasLine(line) ? firsts[line] : 0;
        }

        int secondAt(int line) {
            return hasLine(line) ? seconds[line] : 0;
        }

        int mateAt(int line) {
            return hasLine(line) ? mates[line] : lines;
        }

        void copyFrom(Plan other) {
            if (other == null) {
                return;
            }
            System.arraycopy(other.deeds, 0, deeds, 0, MOST_LINES);
            System.arraycopy(other.firsts, 0, firsts, 0, MOST_LINES);
            System.arraycopy(other.seconds, 0, seconds, 0, MOST_LINES);
            System.arraycopy(other.mates, 0, mates, 0, MOST_LINES);
            lines = other.lines;
            steps = other.steps;
            isThere = other.isThere;
        }
    }

    /** The DISTRICT with all that became of it. */
    private static final class Parish {
        static final int MOST_KINDS = 5;
        static final int MOST_PEOPLE = 7;
        static final int MOST_THINGS = 8;
        static final int MOST_ODDS = 16;
        static final int MOST_STEP = 9;
        static final int MOST_WEIGHT = 9;
        static final int MOST_WORTH = 9;
        static final int SPOTS = 10;
        static final int LAST_HOME = 59;
        static final int LAST_MINUTE = 9999;
        // No WORD has this code.
        static final long NO_NAME = 0;

        private int odds = 4;
        private int arm = 5;
        private int minute = 0;
        private int kinds = 0;
        private int people = 0;
        private int things = 0;
        private final int[] kindSteps = new int[MOST_KINDS];
        private final int[] kindSpots = new int[MOST_KINDS];
        private final int[] kindWeights = new int[MOST_KINDS];
        private final long[] names = new long[MOST_PEOPLE];
        private final int[] homes = new int[MOST_PEOPLE];
        private final int[] reaches = new int[MOST_PEOPLE];
        private final int[] owners = new int[MOST_THINGS];
        private final int[] thingKinds = new int[MOST_THINGS];
        private final int[] worths = new int[MOST_THINGS];
        private final int[] lostAts = new int[MOST_THINGS];
        private final int[] scratchedAts = new int[MOST_THINGS];
        private final int[] foundAts = new int[MOST_THINGS];

        void clear() {
            odds = 4;
            arm = 5;
            minute = 0;
            kinds = 0;
            people = 0;
            things = 0;
        }

        void copyFrom(Parish other) {
            if (other == null) {
                return;
            }
            odds = other.odds;
            arm = other.arm;
            minute = other.minute;
            kinds = other.kinds;
            people = other.people;
            things = other.things;
            System.arraycopy(other.kindSteps, 0, kindSteps, 0, MOST_KINDS);
            System.arraycopy(other.kindSpots, 0, kindSpots, 0, MOST_KINDS);
            System.arraycopy(other.kindWeights, 0, kindWeights, 0, MOST_KINDS);
            System.arraycopy(other.names, 0, names, 0, MOST_PEOPLE);
            System.arraycopy(other.homes, 0, homes, 0, MOST_PEOPLE);
            System.arraycopy(other.reaches, 0, reaches, 0, MOST_PEOPLE);
            System.arraycopy(other.owners, 0, owners, 0, MOST_THINGS);
            System.arraycopy(other.thingKinds, 0, thingKinds, 0, MOST_THINGS);
            System.arraycopy(other.worths, 0, worths, 0, MOST_THINGS);
            System.arraycopy(other.lostAts, 0, lostAts, 0, MOST_THINGS);
            System.arraycopy(other.scratchedAts, 0, scratchedAts, 0, MOST_THINGS);
            System.arraycopy(other.foundAts, 0, foundAts, 0, MOST_THINGS);
        }

        int odds() {
            return odds;
        }

        int arm() {
            return arm;
        }

        int minute() {
            return minute;
        }

        int kinds() {
            return kinds;
        }

        int people() {
            return people;
        }

        int things() {
            return things;
        }

        void setOdds(int much) {
            odds = much;
        }

        void setArm(int much) {
            arm = much;
        }

        boolean hasKind(int kind) {
            return kind >= 0 && kind < kinds;
        }

        boolean hasPerson(int person) {
            return person >= 0 && person < people;
        }

        boolean hasThing(int thing) {
            return thing >= 0 && thing < things;
        }

        boolean isSpot(int spot) {
            return spot >= 0 && spot < SPOTS;
        }

        boolean isHome(int place) {
            return place >= 0 && place <= LAST_HOME;
        }

        boolean isThingSet(int set) {
            return set >= 0 && set < 1 << things;
        }

        // ---- KINDS

        void addKind(int step, int spot, int weight) {
            if (kinds < MOST_KINDS) {
                kindSteps[kinds] = step;
                kindSpots[kinds] = spot;
                kindWeights[kinds] = weight;
                kinds++;
            }
        }

        int ofKind(int kind, int what) {
            return !hasKind(kind) ? 0
                : what == 0 ? kindSteps[kind] : what == 1 ? kindSpots[kind] : kindWeights[kind];
        }

        int weightOfKind(int kind) {
            return ofKind(kind, 2);
        }

        boolean isForKind(int what, int much) {
            return what == 0 ? much >= 1 && much <= MOST_STEP
                : what == 1 ? isSpot(much)
                : what == 2 && much >= 1 && much <= MOST_WEIGHT;
        }

        void changeKind(int kind, int what, int much) {
            if (!hasKind(kind)) {
                return;
            }
            if (what == 0) {
                kindSteps[kind] = much;
            } else if (what == 1) {
                kindSpots[kind] = much;
            } else {
                kindWeights[kind] = much;
            }
        }

        int bearerBySteps(int owner, int step) {
            return owner >= 0 && owner < people ? (owner + step) % people : NONE;
        }

        int spotFrom(int owner, int spot) {
            return (owner + spot) % SPOTS;
        }

        int bearerBy(int owner, int kind) {
            return hasKind(kind) ? bearerBySteps(owner, kindSteps[kind]) : NONE;
        }

        int spotBy(int owner, int kind) {
            return hasKind(kind) ? spotFrom(owner, kindSpots[kind]) : NONE;
        }

        // ---- PEOPLE

        int addPerson(long name, int home, int reach) {
            if (people >= MOST_PEOPLE) {
                return NONE;
            }
            names[people] = name;
            homes[people] = home;
            reaches[people] = reach;
            people++;
            return people - 1;
        }

        int personNamed(long name) {
            for (int person = 0; person < people; person++) {
                if (names[person] == name) {
                    return person;
                }
            }
            return NONE;
        }

        int homeOf(int person) {
            return hasPerson(person) ? homes[person] : 0;
        }

        int reachOf(int person) {
            return hasPerson(person) ? reaches[person] : 0;
        }

        boolean reaches(int person, int spot) {
            return hasPerson(person) && isSpot(spot) && (reaches[person] >> spot & 1) != 0;
        }

        void toggleReach(int person, int spot) {
            if (hasPerson(person) && isSpot(spot)) {
                reaches[person] ^= 1 << spot;
            }
        }

        void settle(int person, int home) {
            if (hasPerson(person)) {
                homes[person] = home;
            }
        }

        int apart(int person, int other) {
            boolean areThere = person >= 0 && person < people && other >= 0 && other < people;
            int way = areThere ? homes[person] - homes[other] : 0;
            return way < 0 ? -way : way;
        }

        // ---- THINGS

        int addThing(int owner, int kind, int worth) {
            if (things >= MOST_THINGS) {
                return NONE;
            }
            owners[things] = owner;
            thingKinds[things] = kind;
            worths[things] = worth;
            lostAts[things] = minute;
            scratchedAts[things] = NONE;
            foundAts[things] = NONE;
            things++;
            return things - 1;
        }

        int ownerOf(int thing) {
            return hasThing(thing) ? owners[thing] : NONE;
        }

        int kindOf(int thing) {
            return hasThing(thing) ? thingKinds[thing] : NONE;
        }

        int worthOf(int thing) {
            return hasThing(thing) ? worths[thing] : 0;
        }

        int lostAtOf(int thing) {
            return hasThing(thing) ? lostAts[thing] : NONE;
        }

        int bearerOf(int thing) {
            // In full, not by bearerBy(), so that no calls go too deep.
            int kind = thing >= 0 && thing < things ? thingKinds[thing] : NONE;
            return kind >= 0 && kind < kinds && people > 0 ? (owners[thing] + kindSteps[kind]) % people : NONE;
        }

        int spotOf(int thing) {
            int kind = thing >= 0 && thing < things ? thingKinds[thing] : NONE;
            return kind >= 0 && kind < kinds ? (owners[thing] + kindSpots[kind]) % SPOTS : NONE;
        }

        int delayOf(int thing) {
            return hasThing(thing) ? apart(bearerOf(thing), owners[thing]) : 0;
        }

        int upAtOf(int thing) {
            return hasThing(thing) ? lostAts[thing] + delayOf(thing) : NONE;
        }

        int scratchedAtOf(int thing) {
            return hasThing(thing) ? scratchedAts[thing] : NONE;
        }

        int foundAtOf(int thing) {
            return hasThing(thing) ? foundAts[thing] : NONE;
        }

        boolean isScratched(int thing) {
            return hasThing(thing) && scratchedAts[thing] != NONE;
        }

        boolean isUp(int thing) {
            return hasThing(thing) && scratchedAts[thing] == NONE
                && minute >= lostAts[thing] + apart(bearerOf(thing), owners[thing]);
        }

        boolean isFound(int thing) {
            return isScratched(thing) && minute >= foundAts[thing];
        }

        boolean isAble(int person, int thing) {
            int bearer = bearerOf(thing);
            return person == bearer ? reaches(person, spotOf(thing)) : apart(person, bearer) <= arm;
        }

        boolean canScratchNow(int person, int thing) {
            return hasPerson(person) && isUp(thing) && isAble(person, thing);
        }

        void endItch(int thing) {
            if (hasThing(thing)) {
                scratchedAts[thing] = minute;
                foundAts[thing] = minute + delayOf(thing);
            }
        }

        int soonestFound(int thing) {
            return isScratched(thing) ? foundAtOf(thing) : Math.max(minute, upAtOf(thing)) + delayOf(thing);
        }

        // ---- MINUTES

        boolean canWait(int minutes) {
            return minutes <= LAST_MINUTE - minute;
        }

        void goOn(int minutes) {
            minute += minutes;
        }

        // ---- sets

        int ableSetFor(int thing) {
            int set = 0;
            for (int person = 0; person < people; person++) {
                set |= isAble(person, thing) ? 1 << person : 0;
            }
            return set;
        }

        int upSet() {
            int set = 0;
            for (int thing = 0; thing < things; thing++) {
                set |= isUp(thing) ? 1 << thing : 0;
            }
            return set;
        }

        int upSetOn(int bearer) {
            int set = 0;
            for (int thing = 0; thing < things; thing++) {
                set |= bearerOf(thing) == bearer && isUp(thing) ? 1 << thing : 0;
            }
            return set;
        }

        int upSetFor(int person) {
            int set = 0;
            for (int thing = 0; thing < things; thing++) {
                set |= canScratchNow(person, thing) ? 1 << thing : 0;
            }
            return set;
        }

        int ownSetOf(int person) {
            int set = 0;
            for (int thing = 0; thing < things; thing++) {
                set |= ownerOf(thing) == person ? 1 << thing : 0;
            }
            return set;
        }

        int scratchedSet() {
            int set = 0;
            for (int thing = 0; thing < things; thing++) {
                set |= isScratched(thing) ? 1 << thing : 0;
            }
            return set;
        }

        int foundSet() {
            int set = 0;
            for (int thing = 0; thing < things; thing++) {
                set |= isFound(thing) ? 1 << thing : 0;
            }
            return set;
        }
    }

    /** One run of DAYS and what it tells. */
    private static final class Life {
        private static final int MOST_STEPS = 300;
        // Far above what 300 STEPS and the ends among them can take.
        private static final int MOST_BEATS = 1000000;

        private final int[] roundsLeft = new int[Plan.MOST_LINES];
        private int drawn = 0;
        private int steps = 0;
        private int missed = 0;
        private int minutes = 0;
        private int lost = 0;
        private int scratched = 0;
        private int cutShort = 0;
        private boolean wasRun = false;

        boolean wasRun() {
            return wasRun;
        }

        int steps() {
            return steps;
        }

        int tally(int what) {
            return what == 0 ? missed : what == 1 ? minutes : what == 2 ? lost : what == 3 ? scratched : cutShort;
        }

        void run(Plan plan, Parish parish, int seed) {
            drawn = seed;
            steps = 0;
            missed = 0;
            minutes = 0;
            lost = 0;
            scratched = 0;
            cutShort = 0;
            wasRun = true;
            int line = 0;
            for (int beat = 0; beat < MOST_BEATS && line >= 0 && line < plan.lines(); beat++) {
                int deed = plan.deedAt(line);
                if (deed == Tape.END) {
                    line = behindEnd(plan, line);
                    continue;
                }
                if (steps >= MOST_STEPS) {
                    cutShort = 1;
                    return;
                }
                steps++;
                if (deed == Tape.STOP) {
                    return;
                }
                line = behindStep(plan, parish, line);
            }
        }

        private int behindEnd(Plan plan, int end) {
            int beginning = plan.mateAt(end);
            if (plan.deedAt(beginning) == Tape.LOOP && beginning >= 0 && beginning < Plan.MOST_LINES) {
                roundsLeft[beginning]--;
                if (roundsLeft[beginning] > 0) {
                    return beginning + 1;
                }
            }
            return end + 1;
        }

        private int behindStep(Plan plan, Parish parish, int line) {
            int deed = plan.deedAt(line);
            int first = plan.firstAt(line);
            int second = plan.secondAt(line);
            if (deed == Tape.ANY && parish.people() > 0 && parish.things() > 0) {
                first = draw(parish.people());
                second = draw(parish.things());
                deed = draw(16) < parish.odds() ? Tape.SCRATCH : Tape.WAIT;
                first = deed == Tape.WAIT ? 1 : first;
            }
            if (deed == Tape.WHEN) {
                return holds(parish, first, second) ? line + 1 : plan.mateAt(line) + 1;
            }
            if (deed == Tape.LOOP) {
                return intoLoop(plan, line, first);
            }
            missed += isDone(parish, deed, first, second) ? 0 : 1;
            return line + 1;
        }

        private boolean isDone(Parish parish, int deed, int first, int second) {
            if (deed == Tape.WAIT && parish.canWait(first)) {
                parish.goOn(first);
                minutes += first;
                return true;
            }
            if (deed == Tape.LOSE && parish.addThing(first, second, 1) != NONE) {
                lost++;
                return true;
            }
            if (deed == Tape.SCRATCH && parish.canScratchNow(first, second)) {
                parish.endItch(second);
                scratched++;
                return true;
            }
            return false;
        }

        // A loop about nothing is left at once: its rounds hold no STEP.
        private int intoLoop(Plan plan, int line, int rounds) {
            int end = plan.mateAt(line);
            if (line < 0 || line >= Plan.MOST_LINES || end == line + 1) {
                return end + 1;
            }
            roundsLeft[line] = rounds;
            return line + 1;
        }

        private int draw(int by) {
            drawn = (drawn * 2971 + 10957) % 65536;
            return by > 0 ? drawn / 8 % by : 0;
        }

        private boolean holds(Parish parish, int test, int number) {
            switch (test) {
                case Tape.FOUND:
                    return parish.isFound(number);
                case Tape.UP:
                    return parish.isUp(number);
                case '<':
                    return parish.minute() < number;
                case '>':
                    return parish.minute() > number;
                default:
                    return parish.minute() == number;
            }
        }
    }

    /** Who should SCRATCH what: ROUNDS and GAMES. */
    private static final class Work {
        static final int MOST_TURNS = 4;
        private static final int CROWDS = 1 << Parish.MOST_PEOPLE;

        private final int[] ableSets = new int[Parish.MOST_THINGS];
        private final int[] workers = new int[Parish.MOST_THINGS];
        // By a THING and the set of PEOPLE at work already: the most that can still be SCRATCHED from it on.
        private final int[] most = new int[(Parish.MOST_THINGS + 1) * CROWDS];

        int assign(Parish parish) {
            for (int thing = 0; thing < Parish.MOST_THINGS; thing++) {
                ableSets[thing] = parish.isUp(thing) ? parish.ableSetFor(thing) : 0;
            }
            for (int thing = Parish.MOST_THINGS - 1; thing >= 0; thing--) {
                for (int busy = 0; busy < CROWDS; busy++) {
                    most[thing * CROWDS + busy] = mostFrom(thing, busy);
                }
            }
            int busy = 0;
            for (int thing = 0; thing < Parish.MOST_THINGS; thing++) {
                workers[thing] = bestWorker(thing, busy);
                busy |= workers[thing] == NONE ? 0 : 1 << workers[thing];
            }
            return most[0];
        }

        private int mostFrom(int thing, int busy) {
            int best = mostBehind(thing, busy);
            int free = ableSets[thing] & ~busy;
            for (int person = 0; person < Parish.MOST_PEOPLE && free != 0; person++) {
                if ((free >> person & 1) != 0) {
                    best = Math.max(best, 1 + mostBehind(thing, busy | 1 << person));
                }
            }
            return best;
        }

        private int mostBehind(int thing, int busy) {
            return thing >= 0 && thing < Parish.MOST_THINGS && busy >= 0 && busy < CROWDS
                ? most[(thing + 1) * CROWDS + busy] : 0;
        }

        private int bestWorker(int thing, int busy) {
            int wanted = mostFrom(thing, busy);
            for (int person = 0; person < Parish.MOST_PEOPLE; person++) {
                boolean isFree = (ableSets[thing] >> person & 1) != 0 && (busy >> person & 1) == 0;
                if (isFree && 1 + mostBehind(thing, busy | 1 << person) == wanted) {
                    return person;
                }
            }
            return NONE;
        }

        int workerOn(int thing) {
            return thing >= 0 && thing < Parish.MOST_THINGS ? workers[thing] : NONE;
        }

        int gameWorth(Parish parish, int person, int other, int turns) {
            return bestPlay(parish, parish.upSetFor(person), parish.upSetFor(other), turns);
        }

        int firstMove(Parish parish, int person, int other, int turns) {
            int mine = parish.upSetFor(person);
            int theirs = parish.upSetFor(other);
            int best = bestPlay(parish, mine, theirs, turns);
            for (int thing = 0; thing < Parish.MOST_THINGS; thing++) {
                if ((mine >> thing & 1) != 0 && worthOfMove(parish, mine, theirs, turns, thing) == best) {
                    return thing;
                }
            }
            return NONE;
        }

        private static int worthOfMove(Parish parish, int mine, int theirs, int turns, int thing) {
            int without = ~(1 << thing);
            return parish.worthOf(thing) - bestPlay(parish, theirs & without, mine & without, turns - 1);
        }

        // Each turn is one level, and there are at most four.
        private static int bestPlay(Parish parish, int mine, int theirs, int turns) {
            if (turns <= 0 || turns > MOST_TURNS) {
                return 0;
            }
            int best = -bestPlay(parish, theirs, mine, turns - 1);
            for (int thing = 0; thing < Parish.MOST_THINGS; thing++) {
                if ((mine >> thing & 1) != 0) {
                    best = Math.max(best, worthOfMove(parish, mine, theirs, turns, thing));
                }
            }
            return best;
        }
    }

    /** Arrows from PEOPLE to PEOPLE: who NEEDS whom, to whom a word goes. */
    private static final class Arrows {
        private final int[] targets = new int[Parish.MOST_PEOPLE];
        private final int[] steps = new int[Parish.MOST_PEOPLE];

        private void clear() {
            for (int person = 0; person < Parish.MOST_PEOPLE; person++) {
                targets[person] = 0;
            }
        }

        private void draw(int person, int other) {
            if (person >= 0 && person < Parish.MOST_PEOPLE && other >= 0 && other < Parish.MOST_PEOPLE) {
                targets[person] |= 1 << other;
            }
        }

        void drawNeeds(Parish parish, int withoutThings) {
            clear();
            for (int thing = 0; thing < parish.things(); thing++) {
                if (!parish.isScratched(thing) && (withoutThings >> thing & 1) == 0) {
                    draw(parish.ownerOf(thing), parish.bearerOf(thing));
                }
            }
        }

        void drawKinds(Parish parish) {
            clear();
            for (int person = 0; person < parish.people(); person++) {
                for (int kind = 0; kind < parish.kinds(); kind++) {
                    draw(person, parish.bearerBy(person, kind));
                }
            }
        }

        int from(int person) {
            return person >= 0 && person < Parish.MOST_PEOPLE ? targets[person] : 0;
        }

        private int fromAll(int set) {
            int reached = 0;
            for (int person = 0; person < Parish.MOST_PEOPLE; person++) {
                reached |= (set >> person & 1) != 0 ? targets[person] : 0;
            }
            return reached;
        }

        int shortestRing() {
            int shortest = NONE;
            for (int person = 0; person < Parish.MOST_PEOPLE; person++) {
                int front = targets[person];
                int length = 1;
                while (length < Parish.MOST_PEOPLE && (front >> person & 1) == 0) {
                    front = fromAll(front);
                    length++;
                }
                if ((front >> person & 1) != 0 && (shortest == NONE || length < shortest)) {
                    shortest = length;
                }
            }
            return shortest;
        }

        int leastEnding(Parish parish) {
            int open = ~parish.scratchedSet() & (1 << parish.things()) - 1;
            int least = open;
            for (int set = 0; set <= open; set++) {
                boolean isFewer = set == 0 || Integer.bitCount(set) < Integer.bitCount(least);
                if ((set & ~open) == 0 && isFewer) {
                    drawNeeds(parish, set);
                    least = shortestRing() == NONE ? set : least;
                }
            }
            return least;
        }

        /** Reckons how many arrows each PERSON is from one; NONE for those who come to him by none. */
        void measureTo(int other) {
            for (int person = 0; person < Parish.MOST_PEOPLE; person++) {
                steps[person] = person == other ? 0 : NONE;
            }
            for (int length = 1; length < Parish.MOST_PEOPLE; length++) {
                for (int person = 0; person < Parish.MOST_PEOPLE; person++) {
                    if (steps[person] == NONE && nextOnWay(person, length) != NONE) {
                        steps[person] = length;
                    }
                }
            }
        }

        // The first PERSON to whom an arrow leads who has one step less to go.
        private int nextOnWay(int person, int length) {
            for (int next = 0; next < Parish.MOST_PEOPLE; next++) {
                if ((from(person) >> next & 1) != 0 && steps[next] == length - 1) {
                    return next;
                }
            }
            return NONE;
        }

        int stepsFrom(int person) {
            return person >= 0 && person < Parish.MOST_PEOPLE ? steps[person] : NONE;
        }

        /** Who is the k-th on the first of the shortest ways to him to whom it was measured. */
        int passedBy(int person, int k) {
            int length = stepsFrom(person);
            if (length == NONE || k < 0 || k > length) {
                return NONE;
            }
            int at = person;
            for (int step = 0; step < k && step < length; step++) {
                at = nextOnWay(at, length - step);
            }
            return at;
        }
    }

    /** Whose an ITCH can be, and by which laws THINGS ITCH. */
    private static final class Clues {
        static final int MOST_THREES = 15;

        static boolean itches(Parish parish, int owner, int kind, int person, int spot) {
            return parish.bearerBy(owner, kind) == person && parish.spotBy(owner, kind) == spot;
        }

        static int countCouples(Parish parish, int person, int spot) {
            int count = 0;
            for (int owner = 0; owner < parish.people(); owner++) {
                for (int kind = 0; kind < parish.kinds(); kind++) {
                    count += itches(parish, owner, kind, person, spot) ? 1 : 0;
                }
            }
            return count;
        }

        static int weightOf(Parish parish, int person, int spot, int owner) {
            int weight = 0;
            for (int kind = 0; kind < parish.kinds(); kind++) {
                weight += itches(parish, owner, kind, person, spot) ? parish.weightOfKind(kind) : 0;
            }
            return weight;
        }

        static int spotSet(Parish parish, int owner, int bearer) {
            int set = 0;
            for (int kind = 0; kind < parish.kinds(); kind++) {
                set |= parish.bearerBy(owner, kind) == bearer ? 1 << parish.spotBy(owner, kind) : 0;
            }
            return set;
        }

        static boolean areThrees(Parish parish, Rows rows, int tray, int n) {
            for (int k = 0; k < n && k < MOST_THREES; k++) {
                long owner = rows.numberAt(tray, 3 * k);
                long bearer = rows.numberAt(tray, 3 * k + 1);
                long spot = rows.numberAt(tray, 3 * k + 2);
                boolean isOne = owner >= 0 && owner < parish.people() && bearer >= 0 && bearer < parish.people()
                    && spot >= 0 && spot < Parish.SPOTS;
                if (!isOne) {
                    return false;
                }
            }
            return true;
        }

        private static boolean isLaw(Parish parish, Rows rows, int tray, int n, int law) {
            for (int k = 0; k < n && k < MOST_THREES; k++) {
                int owner = (int) rows.numberAt(tray, 3 * k);
                int bearer = parish.bearerBySteps(owner, law / Parish.SPOTS);
                int spot = parish.spotFrom(owner, law % Parish.SPOTS);
                if (rows.numberAt(tray, 3 * k + 1) != bearer || rows.numberAt(tray, 3 * k + 2) != spot) {
                    return false;
                }
            }
            return true;
        }

        static int countLaws(Parish parish, Rows rows, int tray, int n) {
            int count = 0;
            for (int law = Parish.SPOTS; law < (Parish.MOST_STEP + 1) * Parish.SPOTS; law++) {
                count += isLaw(parish, rows, tray, n, law) ? 1 : 0;
            }
            return count;
        }

        /** The first law, its STEP times ten and its SPOT together; NONE if none fits. */
        static int firstLaw(Parish parish, Rows rows, int tray, int n) {
            for (int law = Parish.SPOTS; law < (Parish.MOST_STEP + 1) * Parish.SPOTS; law++) {
                if (isLaw(parish, rows, tray, n, law)) {
                    return law;
                }
            }
            return NONE;
        }
    }

    /** What a tramp walks. */
    private static final class Walks {
        static int cost(Parish parish, int place, int set) {
            int lowest = Parish.LAST_HOME;
            int highest = 0;
            for (int thing = 0; thing < parish.things(); thing++) {
                if ((set >> thing & 1) != 0) {
                    int home = parish.homeOf(parish.bearerOf(thing));
                    lowest = Math.min(lowest, home);
                    highest = Math.max(highest, home);
                }
            }
            // He goes to the nearer end of what he must see, then through to the other one.
            return set == 0 ? 0 : highest - lowest + Math.min(Math.abs(place - lowest), Math.abs(place - highest));
        }

        static long orders(int count) {
            long orders = 1;
            for (int k = 2; k <= count && k <= Parish.MOST_THINGS; k++) {
                orders *= k;
            }
            return orders;
        }

        static long shareOfAllOrders(Parish parish, int place, int set, int thing) {
            // No more bits than THINGS, so that the loop below ends for any set.
            int others = set & (1 << Parish.MOST_THINGS) - 1 & ~(1 << thing);
            int count = Integer.bitCount(others);
            long sum = 0;
            for (int ahead = 0; ahead <= others; ahead++) {
                if ((ahead & ~others) == 0) {
                    int many = Integer.bitCount(ahead);
                    long more = cost(parish, place, ahead | 1 << thing) - cost(parish, place, ahead);
                    sum += orders(many) * orders(count - many) * more;
                }
            }
            return sum;
        }
    }
}
