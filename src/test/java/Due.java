import java.util.NoSuchElementException;
import java.util.function.LongSupplier;

/** One object under test, and what is due of it. The program counts no calls, so more than 512 of them may look. */
final class Due {
    static final String YARD = "g0w100k30;g1w90k20;g2w50k5;b0c50;b1c40;b2c10;l015;x02";

    private static int wrong = 0;
    private static int asked = 0;
    final GrainBins x = new GrainBins();
    private final String name;

    Due(String name) {
        this.name = name;
    }

    /** An object that was told a text of LINES. */
    static Due landed(String name, String lines) {
        Due due = new Due(name);
        due.text(lines);
        due.is("land", due.x.land(), lines.isEmpty() ? 0 : lines.split(";").length);
        return due;
    }

    void text(String signs) {
        is("end(0)", x.end(0), true);
        for (int i = 0; i < signs.length(); i += 4) {
            int v = 0;
            for (int k = i; k < i + 4; k++) {
                v = v << 8 | (k < signs.length() ? signs.charAt(k) : 0);
            }
            is("sign", x.sign(v), i + 4);
        }
        is("end", x.end(signs.length()), true);
    }

    void is(String what, long got, long want) {
        asked++;
        if (got != want) {
            wrong++;
            System.out.println(name + ": " + what + " answered " + got + ", due is " + want);
        }
    }

    void is(String what, boolean got, boolean want) {
        is(what, got ? 1 : 0, want ? 1 : 0);
    }

    /** The ROW has these numbers and no others. */
    void row(long... want) {
        is("count(7)", x.count(7), want.length);
        for (int i = 0; i < want.length; i++) {
            try {
                is("row(" + i + ")", x.row(i), want[i]);
            } catch (NoSuchElementException e) {
                is("row(" + i + ") throws", 1, 0);
            }
        }
        noRow(want.length);
        noRow(-1);
    }

    void noRow(int i) {
        int thrown = 0;
        try {
            x.row(i);
        } catch (NoSuchElementException e) {
            thrown = 1;
        }
        is("row(" + i + ") throws", thrown, 1);
    }

    /** All that lies, as written() tells it. */
    void lies(String want) {
        StringBuilder got = new StringBuilder();
        int n = x.written(-1);
        for (int i = 0; i < n; i++) {
            got.append((char) x.written(i));
        }
        asked++;
        if (!got.toString().equals(want)) {
            wrong++;
            System.out.println(name + ": what lies is " + got + ", due is " + want);
        }
        is("written(" + n + ")", x.written(n), -1);
        is("written(-2)", x.written(-2), -1);
    }

    /** All that can be asked of without a ROW, but for the signs of THE TEXT. */
    String state() {
        StringBuilder said = new StringBuilder();
        for (int i = 0; i < 6; i++) {
            for (int what = 0; what < 3; what++) {
                said.append(x.grade(i, what)).append(' ');
            }
            for (int other = 0; other < 6; other++) {
                said.append(x.pair(i, other)).append(' ');
            }
            for (int what = 0; what < 5; what++) {
                said.append(x.bin(i, what)).append(' ');
            }
            for (int k = 0; k < x.bin(i, 2); k++) {
                for (int what = 0; what < 4; what++) {
                    said.append(x.layer(i, k, what)).append(' ');
                }
            }
        }
        for (int what = 0; what < 7; what++) {
            said.append(x.count(what)).append(' ');
        }
        for (int i = 0; i < x.written(-1); i++) {
            said.append((char) x.written(i));
        }
        return said.toString();
    }

    String rows() {
        StringBuilder said = new StringBuilder();
        for (int i = 0; i < x.count(7); i++) {
            said.append(x.row(i)).append(' ');
        }
        return said.toString();
    }

    private void same(String what, String got, String want) {
        asked++;
        if (!got.equals(want)) {
            wrong++;
            System.out.println(name + ": " + what + ": now " + got + ", was " + want);
        }
    }

    /** A call that changes nothing at all: one that is refused, or that tells of no ROW and asks. */
    void idle(String what, long want, LongSupplier call) {
        int signs = x.count(8);
        String rows = rows();
        asks(what, want, call);
        same(what + ", ROW", rows(), rows);
        is(what + ", signs", x.count(8), signs);
    }

    /** A call that changes nothing but the ROW, and has that ROW. */
    void asks(String what, long want, LongSupplier call, long... row) {
        String was = state();
        is(what, call.getAsLong(), want);
        same(what, state(), was);
        if (row.length > 0) {
            row(row);
        }
    }

    /** A call that reads THE TEXT and changes nothing but it. */
    void idleReads(String text, String what, long want, LongSupplier call) {
        text(text);
        String rows = rows();
        asks(what + " of " + text, want, call);
        same(what + " of " + text + ", ROW", rows(), rows);
        is(what + " of " + text + ", signs", x.count(8), 0);
    }

    /** A call that reads THE TEXT and changes nothing but it and the ROW. */
    void asksReading(String text, String what, long want, LongSupplier call, long... row) {
        text(text);
        asks(what + " of " + text, want, call);
        row(row);
        is(what + " of " + text + ", signs", x.count(8), 0);
    }

    /** An ACT: it can be undone, and all is as it was then. */
    void act(String what, long want, LongSupplier call) {
        String was = state();
        int acts = x.count(5);
        is(what, call.getAsLong(), want);
        is(what + ", acts", x.count(5), Math.min(8, acts + 1));
        if (acts < 8) {
            String then = state();
            is(what + ", undo", x.undo(), acts);
            same(what + ", undone", state(), was);
            is(what + ", again", call.getAsLong(), want);
            same(what + ", again", state(), then);
        }
    }

    static void end() {
        System.out.println(asked + " answers, " + wrong + " not as due");
        if (wrong != 0) {
            System.exit(1);
        }
    }
}
