/** What the tests share: telling wrong answers, feeding texts. */
final class Checks {
    private final String name;
    private int asked = 0;
    private int wrong = 0;

    Checks(String name) {
        this.name = name;
    }

    void due(String what, long got, long want) {
        asked++;
        if (got != want) {
            wrong++;
            System.out.println(name + ": " + what + " answered " + got + ", due is " + want);
        }
    }

    void due(String what, boolean got, boolean want) {
        due(what, got ? 1 : 0, want ? 1 : 0);
    }

    /** An answer given with STATUS 0. */
    void fine(String what, ItchParish x, long got, long want) {
        due(what, got, want);
        due(what + " status()", x.status(), 0);
    }

    void fine(String what, ItchParish x, boolean got) {
        fine(what, x, got ? 1 : 0, 1);
    }

    /** NONE with the STATUS that is due. */
    void refused(String what, ItchParish x, long got, int status) {
        due(what, got, ItchParish.NONE);
        due(what + " status()", x.status(), status);
    }

    void refused(String what, ItchParish x, boolean got, int status) {
        due(what, got, false);
        due(what + " status()", x.status(), status);
    }

    void fraction(String what, ItchParish x, boolean got, long top, long bottom) {
        fine(what, x, got);
        due(what + " top()", x.top(), top);
        due(what + " bottom()", x.bottom(), bottom);
    }

    /** Ends the test: exit code 1 if an answer was wrong. */
    void end() {
        System.out.println(name + ": " + asked + " answers, " + wrong + " wrong");
        if (wrong != 0) {
            System.exit(1);
        }
    }

    static void feed(ItchParish x, String text) {
        for (int at = 0; at < text.length(); at += 20) {
            int[] ints = new int[5];
            for (int k = 0; k < 20; k++) {
                int sign = at + k < text.length() ? text.charAt(at + k) : ' ';
                ints[k / 4] = ints[k / 4] << 8 | sign & 255;
            }
            x.feed(ints[0], ints[1], ints[2], ints[3], ints[4]);
        }
    }

    static int district(ItchParish x, String text) {
        feed(x, text);
        return x.district(text.length());
    }

    static int days(ItchParish x, String text) {
        feed(x, text);
        return x.days(text.length());
    }

    static ItchParish with(String district) {
        ItchParish x = new ItchParish();
        district(x, district);
        return x;
    }
}
