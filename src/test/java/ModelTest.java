import java.util.ArrayList;
import java.util.List;
import java.util.NoSuchElementException;
import java.util.Random;

/** Runs of calls by chance (always the same ones) on the program and on Model. */
public final class ModelTest {
    private static final int RUNS = 1500;
    private static final int CALLS = 160;
    private static int wrong = 0;

    private final Random chance;
    private final GrainBins x = new GrainBins();
    private final Model m = new Model();
    private final int loads;
    private final int wild;
    private final int grades;
    private final List<String> done = new ArrayList<>();

    ModelTest(int run) {
        chance = new Random(run);
        loads = 3 + (run % 25 == 0 ? 3 : run % 2);
        wild = run % 7 == 0 ? 4 : 40;
        grades = 2 + run % 5;
    }

    public static void main(String[] args) {
        int[] seen = new int[43];
        for (int run = 0; run < RUNS && wrong < 5; run++) {
            new ModelTest(run).play(run, seen);
        }
        System.out.println(wrong == 0 ? "all as in the model" : wrong + " runs not as in the model");
        if (wrong != 0) {
            System.exit(1);
        }
    }

    private void play(int run, int[] seen) {
        tell(lines());
        call(4);
        for (int i = 0; i < CALLS; i++) {
            int which = pick();
            seen[which]++;
            if (which == 4) {
                tell(spoil(lines()));
            } else if (reads(which) && chance.nextInt(12) > 0) {
                tell(spoil(orders()));
            }
            if (!call(which)) {
                wrong++;
                int from = Math.max(0, done.size() - 40);
                System.out.println("run " + run + ": " + done.subList(from, done.size()));
                return;
            }
        }
    }

    private static boolean reads(int which) {
        return which == 16 || which == 24 || which == 25 || which == 30 || which == 31;
    }

    private int pick() {
        int n = chance.nextInt(100);
        if (n < 30) {
            return 9;
        }
        if (n < 50) {
            return 10 + chance.nextInt(7);
        }
        if (n < 51 && chance.nextInt(4) == 0) {
            return 4;
        }
        return 5 + chance.nextInt(38);
    }

    private void tell(String text) {
        for (int i = 0; i < text.length(); i += 4) {
            int v = 0;
            for (int k = i; k < i + 4; k++) {
                v = v << 8 | (k < text.length() ? text.charAt(k) : chance.nextInt(256));
            }
            same("sign", v, x.sign(v), m.sign(v));
        }
        int n = text.length();
        same("end", n, x.end(n) ? 1 : 0, m.end(n));
    }

    private String lines() {
        List<String> lines = new ArrayList<>();
        for (int g = 0; g < grades; g++) {
            if (chance.nextInt(6) > 0) {
                lines.add("g" + g + "w" + chance.nextInt(chance.nextBoolean() ? 1000 : 30)
                    + "k" + chance.nextInt(chance.nextBoolean() ? 100 : 9));
            }
        }
        for (int b = 0; b < 6; b++) {
            if (chance.nextInt(4) > 0) {
                lines.add("b" + b + "c" + chance.nextInt(chance.nextBoolean() ? 100 : 30));
            }
        }
        int apart = 1 + chance.nextInt(6);
        for (int a = 0; a < grades; a++) {
            for (int b = a + 1; b < grades; b++) {
                String two = chance.nextBoolean() ? "" + a + b : "" + b + a;
                int kind = chance.nextInt(6);
                if (kind > 2) {
                    lines.add("l" + two + (1 + chance.nextInt(chance.nextBoolean() ? 99 : 5)));
                } else if (kind == 2 && chance.nextInt(apart) == 0) {
                    lines.add("x" + two);
                }
            }
        }
        java.util.Collections.shuffle(lines, chance);
        return String.join(";", lines);
    }

    private String orders() {
        List<String> orders = new ArrayList<>();
        int n = chance.nextInt(loads + 1);
        for (int i = 0; i < n; i++) {
            orders.add(grade() + ":" + (1 + chance.nextInt(chance.nextBoolean() ? 12 : 40)));
        }
        return String.join(",", orders);
    }

    /** Now and then a sign too many, too few, or another one. */
    private String spoil(String text) {
        String told = text;
        while (chance.nextInt(4) == 0) {
            int at = chance.nextInt(told.length() + 1);
            String signs = "gbxlwkc;:,0123456789z\u00ff";
            char sign = signs.charAt(chance.nextInt(signs.length()));
            int kind = chance.nextInt(3);
            if (kind == 0) {
                told = told.substring(0, at);
            } else {
                told = told.substring(0, at) + sign + told.substring(Math.min(told.length(), at + kind - 1));
            }
        }
        return told;
    }

    /** A number that may be, most times. */
    private int in(int least, int most) {
        if (chance.nextInt(wild) > 0) {
            return least + chance.nextInt(most - least + 1);
        }
        switch (chance.nextInt(5)) {
            case 0:
                return least - 1;
            case 1:
                return most + 1;
            case 2:
                return most;
            case 3:
                return least;
            default:
                return chance.nextInt();
        }
    }

    private int grade() {
        return Math.min(chance.nextInt(grades), chance.nextInt(grades));
    }

    private int gradeOrNot() {
        return chance.nextInt(wild) > 0 ? grade() : in(0, 5);
    }

    private int tons() {
        return chance.nextBoolean() ? in(1, 9) : in(1, 99) / (1 + chance.nextInt(4));
    }

    private boolean same(String what, int a, long got, long want) {
        done.add(what + "(" + a + ")=" + got);
        if (got == want) {
            return true;
        }
        done.add("BUT " + want);
        return false;
    }

    private boolean call(int which) {
        int g = gradeOrNot();
        int t = tons();
        int b = in(0, 5);
        int c = in(0, 5);
        int n = chance.nextBoolean() ? in(0, 8) : in(1, 20);
        int d = chance.nextBoolean() ? in(0, 30) : in(0, 999);
        String args = "[" + g + " " + t + " " + b + " " + c + " " + n + " " + d + "]" + which;
        boolean same = same(args, which, got(which, g, t, b, c, n, d), want(which, g, t, b, c, n, d));
        return same && sameState();
    }

    private long got(int which, int g, int t, int b, int c, int n, int d) {
        switch (which) {
            case 4: return x.land();
            case 5: return x.grade(g, n);
            case 6: return x.pair(g, b);
            case 7: return x.bin(b, n);
            case 8: return x.layer(b, c, n);
            case 9: return x.load(g, t, b);
            case 10: return x.draw(b, t);
            case 11: return x.move(b, c, t);
            case 12: return x.turn(b);
            case 13: return x.fumes(b, n);
            case 14: return x.days(n);
            case 15: return x.price(g, d);
            case 16: return x.sells();
            case 17: return x.value(b);
            case 18: return x.all();
            case 19: return x.mixed(g);
            case 20: return x.would(g, t, b);
            case 21: return x.worst();
            case 22: return x.dear();
            case 23: return x.best(g, t);
            case 24: return x.lays();
            case 25: return x.few();
            case 26: return x.room(g);
            case 27: return x.takers(t);
            case 28: return x.bottom(b);
            case 29: return x.reaches(g, t);
            case 30: return x.serves();
            case 31: return x.picks();
            case 32: return x.empties(b);
            case 33: return x.then(d);
            case 34: return x.falls(b, d - 9);
            case 35: return x.old();
            case 36: return x.cures(n, d);
            case 37: return x.undo();
            case 38: return x.keeps();
            case 39: return x.back();
            case 40: return x.written(d);
            case 41: return x.count(n);
            default: return row(x, d % 9);
        }
    }

    private long want(int which, int g, int t, int b, int c, int n, int d) {
        switch (which) {
            case 4: return m.land();
            case 5: return m.grade(g, n);
            case 6: return m.pair(g, b);
            case 7: return m.bin(b, n);
            case 8: return m.layer(b, c, n);
            case 9: return m.load(g, t, b);
            case 10: return m.draw(b, t);
            case 11: return m.move(b, c, t);
            case 12: return m.turn(b);
            case 13: return m.fumes(b, n);
            case 14: return m.days(n);
            case 15: return m.price(g, d);
            case 16: return m.sells();
            case 17: return m.value(b);
            case 18: return m.all();
            case 19: return m.mixed(g);
            case 20: return m.would(g, t, b);
            case 21: return m.worst();
            case 22: return m.dear();
            case 23: return m.best(g, t);
            case 24: return m.lays();
            case 25: return m.few();
            case 26: return m.room(g);
            case 27: return m.takers(t);
            case 28: return m.bottom(b);
            case 29: return m.reaches(g, t);
            case 30: return m.serves();
            case 31: return m.picks();
            case 32: return m.empties(b);
            case 33: return m.then(d);
            case 34: return m.falls(b, d - 9);
            case 35: return m.old();
            case 36: return m.cures(n, d);
            case 37: return m.undo();
            case 38: return m.keeps();
            case 39: return m.back();
            case 40: return m.written(d);
            case 41: return m.count(n);
            default:
                int i = d % 9;
                return i < 0 || i >= m.row.size() ? Long.MIN_VALUE : m.row.get(i);
        }
    }

    private static long row(GrainBins x, int i) {
        try {
            return x.row(i);
        } catch (NoSuchElementException e) {
            return Long.MIN_VALUE;
        }
    }

    private boolean sameState() {
        boolean same = true;
        for (int what = 0; what < 9 && same; what++) {
            same = same("count", what, x.count(what), m.count(what));
        }
        for (int i = 0; i < m.row.size() && same; i++) {
            same = same("row", i, row(x, i), m.row.get(i));
        }
        String script = m.script();
        same = same && same("written", -1, x.written(-1), script.length());
        for (int i = 0; i < script.length() && same; i++) {
            same = x.written(i) == script.charAt(i) || same("written", i, x.written(i), script.charAt(i));
        }
        for (int b = 0; b < 6 && same; b++) {
            same = x.bin(b, 3) == m.bin(b, 3) || same("open", b, x.bin(b, 3), m.bin(b, 3));
            for (int i = 0; i < m.bin(b, 2) && same; i++) {
                same = x.layer(b, i, 2) == m.layer(b, i, 2) || same("since", b, x.layer(b, i, 2), m.layer(b, i, 2));
            }
            same = same && (x.grade(b, 0) == m.grade(b, 0) || same("worth", b, x.grade(b, 0), m.grade(b, 0)));
        }
        return same;
    }
}
