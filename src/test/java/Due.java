import java.util.NoSuchElementException;

/** One object under test, and what is due of it. */
final class Due {
    static final String YARD = "g0w100k30;g1w90k20;g2w50k5;b0c50;b1c40;b2c10;l015;x02";

    private static int wrong = 0;
    private static int asked = 0;
    final GrainBins x = new GrainBins();
    private final String name;

    Due(String name) {
        this.name = name;
    }

    /** An object that was told a text of LINES. */
    static Due landed(String name, String lines) {
        Due due = new Due(name);
        due.text(lines);
        due.is("land", due.x.land(), lines.isEmpty() ? 0 : lines.split(";").length);
        return due;
    }

    void text(String signs) {
        is("end(0)", x.end(0), true);
        for (int i = 0; i < signs.length(); i += 4) {
            int v = 0;
            for (int k = i; k < i + 4; k++) {
                v = v << 8 | (k < signs.length() ? signs.charAt(k) : 0);
            }
            is("sign", x.sign(v), i + 4);
        }
        is("end", x.end(signs.length()), true);
    }

    void is(String what, long got, long want) {
        asked++;
        if (got != want) {
            wrong++;
            System.out.println(name + ": " + what + " answered " + got + ", due is " + want);
        }
    }

    void is(String what, boolean got, boolean want) {
        is(what, got ? 1 : 0, want ? 1 : 0);
    }

    /** The ROW has these numbers and no others. */
    void row(long... want) {
        is("count(7)", x.count(7), want.length);
        for (int i = 0; i < want.length; i++) {
            try {
                is("row(" + i + ")", x.row(i), want[i]);
            } catch (NoSuchElementException e) {
                is("row(" + i + ") throws", 1, 0);
            }
        }
        noRow(want.length);
        noRow(-1);
    }

    void noRow(int i) {
        int thrown = 0;
        try {
            x.row(i);
        } catch (NoSuchElementException e) {
            thrown = 1;
        }
        is("row(" + i + ") throws", thrown, 1);
    }

    /** All that lies, as written() tells it. */
    void lies(String want) {
        StringBuilder got = new StringBuilder();
        int n = x.written(-1);
        for (int i = 0; i < n; i++) {
            got.append((char) x.written(i));
        }
        asked++;
        if (!got.toString().equals(want)) {
            wrong++;
            System.out.println(name + ": what lies is " + got + ", due is " + want);
        }
        is("written(" + n + ")", x.written(n), -1);
        is("written(-2)", x.written(-2), -1);
    }

    static void end() {
        System.out.println(asked + " answers, " + wrong + " not as due");
        if (wrong != 0) {
            System.exit(1);
        }
    }
}
