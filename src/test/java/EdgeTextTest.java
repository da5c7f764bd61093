/** The edges that Terms and promises 1 to 8 name: a new object, THE TEXT, LINES, what is asked of what lies. */
public final class EdgeTextTest {
    private static final int MIN = Integer.MIN_VALUE;
    private static final int MAX = Integer.MAX_VALUE;

    public static void main(String[] args) {
        newObject();
        signFull();
        signBytes();
        endTooFar();
        landNothing();
        landLongest();
        landNumbers();
        landWrongSigns();
        landToldTwice();
        landTooEarly();
        landRefused();
        landClearsAll();
        gradeEdges();
        pairEdges();
        binEdges();
        layerEdges();
        Due.end();
    }

    /** Promise 1, Terms 1: WORTH 0, KEEP 99, LOSS 0, all may, CAP 0, DAY 0; no ROW, nothing undone, nothing kept. */
    static void newObject() {
        Due d = new Due("new");
        d.idle("CAP is 0", -4, () -> d.x.load(0, 1, 0));
        d.idle("nothing lies", -3, () -> d.x.draw(5, 1));
        d.idle("nothing lies", -3, () -> d.x.move(0, 1, 1));
        d.idle("nothing done", -2, () -> d.x.undo());
        d.idle("nothing kept", -2, () -> d.x.back());
        d.idle("nothing mixed", -2, () -> d.x.worst());
        d.idle("nothing worth", -2, () -> d.x.dear());
        d.idle("no room", -2, () -> d.x.best(0, 1));
        d.idle("empty", -2, () -> d.x.bottom(0));
        d.idle("empty", -2, () -> d.x.reaches(0, 1));
        d.idle("empty", -2, () -> d.x.cures(1, 999));
        d.idle("no room", -1000004, () -> d.x.would(5, 1, 5));
        d.idle("never below", -2, () -> d.x.falls(0, 0));
        d.idle("below at once", 0, () -> d.x.falls(0, 1));
        d.idle("no sign", 0, () -> d.x.written(-1));
        d.row();
        d.asks("value", 0, () -> d.x.value(5), 0, 0, 0);
        d.asks("all", 0, () -> d.x.all(), 0, 0, 0, 0, 0, 0);
        d.asks("mixed", 0, () -> d.x.mixed(5), 0, 0, 0, 0, 0, 0);
        d.asks("room", 0, () -> d.x.room(5), -1);
        d.asks("takers", 0, () -> d.x.takers(1), 0, 0, 0, 0, 0, 0);
        d.asks("then", 0, () -> d.x.then(999), 0, 0);
        d.asks("old", 0, () -> d.x.old(), 0, 0, 0, 0, 0, 0, 0);
        d.asks("empties", 0, () -> d.x.empties(5));
        d.row();
        d.asksReading("", "land", 0, () -> d.x.land());
        d.asksReading("", "lays", 0, () -> d.x.lays(), 0);
        d.asksReading("", "few", 0, () -> d.x.few(), 0);
        d.asksReading("", "serves", 0, () -> d.x.serves());
        d.asksReading("", "picks", 0, () -> d.x.picks());
        d.act("turn", 0, () -> d.x.turn(0));
        d.act("fumes", 20, () -> d.x.fumes(0, 20));
        d.act("sells", 0, () -> d.x.sells());
        d.row(0, 0, 0);
        d.is("keeps", d.x.keeps(), 0);
    }

    /** Promise 2: refused, there would be more than 200; what stands in THE TEXT stays. */
    static void signFull() {
        Due d = new Due("sign, full");
        String fifty = "0:1,";
        StringBuilder all = new StringBuilder();
        for (int i = 0; i < 50; i++) {
            all.append(fifty);
        }
        d.text(all.toString());
        for (int v : new int[] {0, -1, MIN, MAX}) {
            d.idle("204 would be too many", -1, () -> d.x.sign(v));
        }
        for (int n = 199; n >= 197; n--) {
            d.is("end", d.x.end(n), true);
            int signs = n + 4;
            d.idle(signs + " would be too many", -1, () -> d.x.sign(0));
            d.is("count(8)", d.x.count(8), n);
        }
        d.is("end", d.x.end(196), true);
        d.is("just 200", d.x.sign('0' << 24 | ':' << 16 | '1' << 8 | ','), 200);
        d.is("the seventh can't be", d.x.serves(), -21 - 23);
        d.is("from nothing again", d.x.sign(0), 4);
    }

    /** Promise 2: the highest byte comes first; each byte is a sign 0 .. 255. */
    static void signBytes() {
        Due d = new Due("sign, bytes");
        int[] wrongAt = {0x7A3A3130, 0x307A3130, 0x303A7A30, 0x303A317A};
        for (int p = 0; p < 4; p++) {
            d.is("sign", d.x.sign(wrongAt[p]), 4);
            d.is("fault", d.x.picks(), -21 - p);
        }
        d.is("sign", d.x.sign(0xFF303A31), 4);
        d.is("255 can't be", d.x.picks(), -21);
        d.is("sign", d.x.sign(0x003A3130), 4);
        d.is("0 can't be", d.x.picks(), -21);
        d.is("sign", d.x.sign(0xB03A3130), 4);
        d.is("not a nought with a high bit", d.x.picks(), -21);
        d.is("sign", d.x.sign(0x303A3120), 4);
        d.is("a blank can't be", d.x.picks(), -24);
    }

    /** Promise 3: false if it has not so many, or n is below 0. */
    static void endTooFar() {
        Due d = new Due("end");
        d.is("none of none", d.x.end(0), true);
        for (int n : new int[] {1, -1, MIN, MAX}) {
            d.idle("of none", 0, () -> d.x.end(n) ? 1 : 0);
        }
        d.is("sign", d.x.sign(0), 4);
        for (int n : new int[] {5, 200, -1, MIN, MAX}) {
            d.idle("of four", 0, () -> d.x.end(n) ? 1 : 0);
        }
        d.is("all of them", d.x.end(4), true);
        d.is("count(8)", d.x.count(8), 4);
        d.is("three", d.x.end(3), true);
        d.idle("gone", 0, () -> d.x.end(4) ? 1 : 0);
        d.is("none", d.x.end(0), true);
        d.is("count(8)", d.x.count(8), 0);
        d.idle("gone", 0, () -> d.x.end(1) ? 1 : 0);
        d.text("0:1,0:1x");
        d.is("end", d.x.end(7), true);
        d.is("the first signs stay", d.x.picks(), 0);
        d.row(6, 6);
    }

    /** Promise 4: an empty THE TEXT tells no LINES; all else is as at first then. */
    static void landNothing() {
        Due d = Due.landed("land of nothing", Due.YARD);
        String fresh = new Due("").state();
        d.is("load", d.x.load(0, 9, 0), 9);
        d.is("keeps", d.x.keeps(), 0);
        d.is("land", d.x.land(), 0);
        d.is("all as at first", d.state().equals(fresh), true);
        d.is("nothing kept", d.x.back(), -2);
        d.is("nothing done", d.x.undo(), -2);
        d.text("g0w1k1");
        d.is("end", d.x.end(0), true);
        d.is("land", d.x.land(), 0);
        d.is("all as at first", d.state().equals(fresh), true);
    }

    static String longest() {
        StringBuilder all = new StringBuilder();
        for (int i = 5; i >= 0; i--) {
            all.append('g').append(i).append("w999k99;b").append(i).append("c99;");
        }
        for (int a = 0; a < 6; a++) {
            for (int b = a + 1; b < 6; b++) {
                all.append('l').append(b).append(a).append("99;");
            }
        }
        all.setLength(all.length() - 1);
        return all.toString();
    }

    /** Promise 4: 27 LINES, each number the greatest that may be. */
    static void landLongest() {
        Due d = Due.landed("land, longest", longest());
        d.is("signs", longest().length(), 185);
        for (int i = 0; i < 6; i++) {
            d.is("WORTH", d.x.grade(i, 0), 999);
            d.is("KEEP", d.x.grade(i, 1), 99);
            d.is("CAP", d.x.bin(i, 0), 99);
            for (int k = 0; k < 6; k++) {
                d.is("LOSS", d.x.pair(i, k), i == k ? 0 : 99);
            }
        }
        d.idleReads(longest() + "x", "land", -21 - 185, () -> d.x.land());
        d.idleReads(longest() + ";g0", "land", -21 - 187, () -> d.x.land());
        d.idleReads(longest() + ";l01", "land", -21 - 188, () -> d.x.land());
        d.idleReads(longest().replace("g0w999", "g0w1000"), "land", -21 - 86, () -> d.x.land());
    }

    private static void faults(String text, int p) {
        Due d = Due.landed("land " + text, "g1w2k3;b1c4;l019;x23");
        d.is("load", d.x.load(1, 4, 1), 4);
        d.is("keeps", d.x.keeps(), 0);
        d.asks("value", 8, () -> d.x.value(1), 8, 0, 8);
        d.idleReads(text, "land", -21 - p, () -> d.x.land());
        d.is("kept still", d.x.back(), 0);
    }

    /** Terms 2: a number that can't be is at fault by its last digit; a nought ahead, a digit too many by itself. */
    static void landNumbers() {
        faults("g0w1000k1", 6);
        faults("g0w00k1", 4);
        faults("g0w01k1", 4);
        faults("g0w1k100", 7);
        faults("g0w1k00", 6);
        faults("g0w1k01", 6);
        faults("b0c100", 5);
        faults("b0c00", 4);
        faults("b0c09", 4);
        faults("b0c-1", 3);
        faults("b0c+1", 3);
        faults("l010", 3);
        faults("l0100", 3);
        faults("l0101", 3);
        faults("l01100", 5);
        faults("g0w/k1", 3);
        faults("g0w:k1", 3);
        faults("g0w9:k1", 4);
        faults("g0w9/k1", 4);
        faults("b0c1/", 4);
        faults("b0c:", 3);
        Due d = Due.landed("least", "g0w0k0;b0c0;l011");
        d.is("WORTH", d.x.grade(0, 0), 0);
        d.is("KEEP", d.x.grade(0, 1), 0);
        d.is("CAP", d.x.bin(0, 0), 0);
        d.is("LOSS", d.x.pair(1, 0), 1);
        d.idle("CAP is 0", -4, () -> d.x.load(0, 1, 0));
    }

    static void landWrongSigns() {
        faults("g6w1k1", 1);
        faults("g9w1k1", 1);
        faults("g-1w1k1", 1);
        faults("g:w1k1", 1);
        faults("g/w1k1", 1);
        faults("b6c1", 1);
        faults("b/c1", 1);
        faults("l601", 1);
        faults("l061", 2);
        faults("l0/1", 2);
        faults("x60", 1);
        faults("x06", 2);
        faults("x0:", 2);
        faults("G0w1k1", 0);
        faults(" g0w1k1", 0);
        faults("g0W1k1", 2);
        faults("g0w1K1", 4);
        faults("g00w1k1", 2);
        faults("b0c1,b1c1", 4);
        faults("x011", 3);
        faults(";", 0);
        faults(";b0c1", 0);
        faults("b0c1;;b1c1", 5);
        faults("b0c1\u00b2", 4);
        faults("b0c1\u0000", 4);
        faults("0:1", 0);
    }

    /** Promise 4: a GRADE, BIN told so already: it; the second GRADE, if both are one, or two were told already. */
    static void landToldTwice() {
        faults("g0w1k1;g0w1k1", 8);
        faults("g5w1k1;g0w1k1;g5w2k2", 15);
        faults("g0w1k1;g0", 8);
        faults("b5c1;b5c1", 6);
        faults("b0c1;b1c1;b1c2", 11);
        faults("l001", 2);
        faults("l551", 2);
        faults("x00", 2);
        faults("x55", 2);
        faults("l011;l012", 7);
        faults("l011;l102", 7);
        faults("x01;x01", 6);
        faults("x01;x10", 6);
        faults("l011;x01", 7);
        faults("l011;x10", 7);
        faults("x54;l45", 6);
        faults("x54;l541", 6);
        faults("x54;l5", 6);
        // of two faults the first sign counts
        faults("g0w1k1;g0w1000k1", 8);
        faults("g0w1000k1;g0w1k1", 6);
        Due d = Due.landed("not told twice", "g0w1k1;b0c1;l011;x02;g1w1k1;b1c1;l121;x35;x34;l451");
        d.is("a BIN is no GRADE", d.x.pair(0, 2), -2);
        d.is("LOSS", d.x.pair(5, 4), 1);
    }

    /** Terms 2: p is the number of its signs, if it ends too early; each way to end. */
    static void landTooEarly() {
        String all = "g0w999k99;b0c99;l0199;x02;b1c1";
        String line = "(g0w[0-9]+k[0-9]+|b[01]c[0-9]+|l01[0-9]+|x02)";
        for (int n = 0; n <= all.length(); n++) {
            String told = all.substring(0, n);
            boolean whole = n == 0 || told.matches(line + "(;" + line + ")*");
            int lines = n == 0 ? 0 : told.split(";").length;
            Due d = new Due("too early");
            d.text(told);
            d.is(told, d.x.land(), whole ? lines : -21 - n);
        }
    }

    /** Terms 2: a refused call changes nothing but THE TEXT; what is kept and can be undone stays. */
    static void landRefused() {
        Due d = Due.landed("refused", Due.YARD);
        d.is("load", d.x.load(0, 9, 0), 9);
        d.is("keeps", d.x.keeps(), 0);
        d.is("days", d.x.days(9), 9);
        d.is("all", d.x.all(), 900);
        d.idleReads("g0w1k1;b0c9;l011;x22", "land", -21 - 19, () -> d.x.land());
        d.is("kept", d.x.back(), 0);
        d.is("acts", d.x.count(5), 3);
        d.is("undo", d.x.undo(), 2);
        d.is("undo", d.x.undo(), 1);
        d.is("undo", d.x.undo(), 0);
        d.is("loss", d.x.pair(0, 1), 5);
        d.row(900, 0, 0, 0, 0, 0);
    }

    /** Promise 4: all else is as at first: of every GRADE, pair and BIN. */
    static void landClearsAll() {
        Due d = Due.landed("cleared", longest());
        String fresh = new Due("").state();
        for (int b = 0; b < 6; b++) {
            for (int i = 0; i < 6; i++) {
                d.is("load", d.x.load(i, 3, b), 3 * i + 3);
            }
            d.is("fumes", d.x.fumes(b, 20), 20);
        }
        d.is("land", d.x.land(), 0);
        d.is("as at first", d.state().equals(fresh), true);
        d.is("all", d.x.all(), 0);
        d.row(0, 0, 0, 0, 0, 0);
        d.text("g0w1k1;b0c99;b1c99;b2c99;b3c99;b4c99;b5c99;x05;x14;x23");
        d.is("land", d.x.land(), 10);
        for (int b = 0; b < 6; b++) {
            int bin = b;
            d.is("room for all", d.x.load(0, 99, bin), 99);
            d.idle("apart", -4, () -> d.x.load(5, 1, bin));
        }
        d.is("no LOSS", d.x.mixed(0), 0);
        d.is("land", d.x.land(), 0);
        d.is("all may", d.state().equals(fresh), true);
    }

    /** Promise 5. */
    static void gradeEdges() {
        Due d = Due.landed("grade", Due.YARD);
        int[] no = {-1, 6, MIN, MAX};
        for (int bad : no) {
            for (int what = 0; what < 3; what++) {
                int w = what;
                d.idle("no GRADE", -1, () -> d.x.grade(bad, w));
            }
        }
        for (int bad : new int[] {-1, 3, MIN, MAX}) {
            d.idle("another what", -1, () -> d.x.grade(0, bad));
            d.idle("another what", -1, () -> d.x.grade(5, bad));
        }
        d.idle("nothing of it", 0, () -> d.x.grade(0, 2));
        d.is("load", d.x.load(0, 50, 0), 50);
        d.is("load", d.x.load(0, 40, 1), 40);
        d.is("load", d.x.load(0, 10, 2), 10);
        d.idle("in all BINS", 100, () -> d.x.grade(0, 2));
    }

    /** Promise 6. */
    static void pairEdges() {
        Due d = Due.landed("pair", Due.YARD);
        for (int bad : new int[] {-1, 6, MIN, MAX}) {
            d.idle("no GRADE", -1, () -> d.x.pair(bad, 0));
            d.idle("no GRADE", -1, () -> d.x.pair(0, bad));
            d.idle("no GRADE", -1, () -> d.x.pair(bad, bad));
        }
        for (int g = 0; g < 6; g++) {
            int grade = g;
            d.idle("of one with itself", 0, () -> d.x.pair(grade, grade));
        }
    }

    /** Promise 7: another what; days till it is not CLOSED. */
    static void binEdges() {
        Due d = Due.landed("bin", Due.YARD);
        for (int bad : new int[] {-1, 6, MIN, MAX}) {
            for (int what = 0; what < 5; what++) {
                int w = what;
                d.idle("no BIN", -1, () -> d.x.bin(bad, w));
            }
        }
        for (int bad : new int[] {-1, 5, MIN, MAX}) {
            d.idle("another what", -1, () -> d.x.bin(5, bad));
        }
        d.act("fumes", 1, () -> d.x.fumes(5, 1));
        d.idle("CLOSED", 1, () -> d.x.bin(5, 3));
        d.act("days", 1, () -> d.x.days(1));
        d.idle("just not CLOSED", 0, () -> d.x.bin(5, 3));
        d.act("days", 100, () -> d.x.days(99));
        d.idle("long not CLOSED", 0, () -> d.x.bin(5, 3));
    }

    /** Promise 8: no such LAYER, another what; Terms 1: UNIT at KEEP, above it, 0 at least. */
    static void layerEdges() {
        Due d = Due.landed("layer", "g0w2k99;g1w2k0;b0c9");
        for (int bad : new int[] {-1, 0, 5, 6, MIN, MAX}) {
            d.idle("empty", -1, () -> d.x.layer(0, bad, 0));
            d.idle("no BIN", -1, () -> d.x.layer(bad == 0 || bad == 5 ? 7 : bad, 0, 0));
        }
        for (int i = 0; i < 6; i++) {
            d.is("load", d.x.load(i % 2, 1, 0), i + 1);
        }
        d.idle("the highest", 1, () -> d.x.layer(0, 5, 0));
        for (int bad : new int[] {-1, 6, 7, MIN, MAX}) {
            d.idle("no LAYER", -1, () -> d.x.layer(0, bad, 0));
            d.idle("another what", -1, () -> d.x.layer(0, 0, bad == 6 ? 4 : bad));
        }
        int[][] units = {{1, 2, 1}, {1, 2, 0}, {1, 2, 0}, {96, 2, 0}, {1, 1, 0}, {1, 0, 0}, {1, 0, 0}};
        int day = 0;
        for (int[] u : units) {
            day += u[0];
            d.is("days", d.x.days(u[0]), day);
            d.is("KEEP 99", d.x.layer(0, 0, 3), u[1]);
            d.is("KEEP 0", d.x.layer(0, 1, 3), u[2]);
        }
        d.is("fumes", d.x.fumes(0, 20), day + 20);
        d.is("SINCE is ahead", d.x.layer(0, 0, 2), day + 20);
        d.is("not above WORTH", d.x.layer(0, 0, 3), 2);
    }
}
