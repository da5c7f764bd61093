/** The edges that promises 28 to 36 name: drawn in order, days to come. */
public final class EdgeDrawnTest {
    private static final int MIN = Integer.MIN_VALUE;
    private static final int MAX = Integer.MAX_VALUE;
    private static final int[] NO_BIN = {-1, 6, MIN, MAX};

    public static void main(String[] args) {
        bottomEdges();
        reachesEdges();
        reachesParts();
        servesEdges();
        picksEdges();
        emptiesEdges();
        emptiesLayers();
        thenEdges();
        fallsEdges();
        fallsLast();
        oldEdges();
        curesNone();
        curesEdges();
        curesLayers();
        Due.end();
    }

    /** Promise 28: empty; till another one comes, or to the top. */
    static void bottomEdges() {
        Due d = EdgeActsTest.six("bottom", "b0c99;b5c99");
        for (int bad : NO_BIN) {
            d.idle("no BIN", -1, () -> d.x.bottom(bad));
        }
        d.idle("empty", -2, () -> d.x.bottom(5));
        d.asks("another one at once", 0, () -> d.x.bottom(0), 1, 1);
        for (int i = 0; i < 6; i++) {
            d.is("load", d.x.load(5, 2, 5), 2 * i + 2);
            d.is("days", d.x.days(1), i + 1);
        }
        d.asks("to the top", 5, () -> d.x.bottom(5), 12, 6);
        d.is("draw", d.x.draw(0, 5), 0);
        d.asks("the top alone", 1, () -> d.x.bottom(0), 1, 1);
        d.is("draw", d.x.draw(0, 1), 0);
        d.idle("empty again", -2, () -> d.x.bottom(0));
        d.is("fumes", d.x.fumes(5, 1), 7);
        d.asks("CLOSED", 5, () -> d.x.bottom(5), 12, 1);
        d.is("fumes", d.x.fumes(0, 1), 7);
        d.idle("CLOSED, empty", -2, () -> d.x.bottom(0));
    }

    /** Promise 29: none; just so many TONS; of equal ones the first. */
    static void reachesEdges() {
        Due d = EdgeActsTest.six("reaches", "b0c99;b1c99;b2c99");
        for (int bad : NO_BIN) {
            d.idle("no GRADE", -1, () -> d.x.reaches(bad, 1));
        }
        for (int bad : new int[] {0, -1, 100, MIN, MAX}) {
            d.idle("no TONS", -1, () -> d.x.reaches(0, bad));
        }
        d.idle("lies nowhere", -2, () -> d.x.reaches(2, 1));
        d.asks("lies lowest", 0, () -> d.x.reaches(0, 1), 0);
        d.asks("one is ahead", 1, () -> d.x.reaches(1, 1), 0);
        d.idle("another one between", -2, () -> d.x.reaches(1, 2));
        d.is("load", d.x.load(1, 1, 0), 7);
        d.asks("on top", 5, () -> d.x.reaches(1, 2), 0);
        d.is("load", d.x.load(3, 1, 2), 1);
        d.is("load", d.x.load(1, 99 - 1, 2), 99);
        d.is("load", d.x.load(1, 99, 1), 99);
        d.asks("as many as can be", 0, () -> d.x.reaches(1, 99), 1);
        d.is("fumes", d.x.fumes(1, 1), 1);
        d.idle("one too few", -2, () -> d.x.reaches(1, 99));
        d.asks("just so many", 1, () -> d.x.reaches(1, 98), 2);
        d.asks("of equal ones the first", 1, () -> d.x.reaches(1, 1), 0);
        d.is("fumes", d.x.fumes(0, 1), 1);
        d.is("fumes", d.x.fumes(2, 1), 1);
        d.idle("all CLOSED", -2, () -> d.x.reaches(1, 1));
        d.idle("NONE, -2", -1, () -> d.x.reaches(1, 0));
    }

    /** LAYERS of one GRADE lie without another one between; too few of them must go ahead, too. */
    static void reachesParts() {
        Due d = Due.landed("reaches, parts", "b3c99");
        for (int i = 0; i < 3; i++) {
            d.is("load", d.x.load(1, 4, 3), 4 * i + 4);
            d.is("days", d.x.days(1), i + 1);
        }
        d.is("load", d.x.load(0, 1, 3), 13);
        d.is("load", d.x.load(1, 20, 3), 33);
        d.asks("over three LAYERS", 0, () -> d.x.reaches(1, 12), 3);
        d.asks("all of these go ahead", 13, () -> d.x.reaches(1, 13), 3);
        d.asks("just so many", 13, () -> d.x.reaches(1, 20), 3);
        d.idle("not both together", -2, () -> d.x.reaches(1, 21));
        d.is("draw", d.x.draw(3, 1), 0);
        d.asks("a part is gone", 12, () -> d.x.reaches(1, 12), 3);
    }

    /** Promise 30: none told, none that can be drawn, all, just so many TONS, one too much. */
    static void servesEdges() {
        Due d = EdgeActsTest.six("serves", "b0c99;b1c99");
        d.asksReading("", "none told", 0, () -> d.x.serves());
        d.asksReading("1:1,0:1", "the first can't", 0, () -> d.x.serves());
        d.asksReading("0:2", "of its GRADE alone", 0, () -> d.x.serves());
        d.asksReading("0:1,1:1,0:1,1:1,0:1,1:1", "six", 6, () -> d.x.serves(), 0, 0, 0, 0, 0, 0);
        d.asksReading("0:1,1:1,0:1,0:1", "from the first one on", 3, () -> d.x.serves(), 0, 0, 0);
        d.is("load", d.x.load(0, 9, 1), 9);
        d.asksReading("0:9", "all that lies", 1, () -> d.x.serves(), 1);
        d.asksReading("0:10", "one too much", 0, () -> d.x.serves());
        d.asksReading("0:5,0:4,0:1,0:1", "one too much", 3, () -> d.x.serves(), 1, 1, 0);
        d.asksReading("0:1,0:9", "the first such row", 2, () -> d.x.serves(), 0, 1);
        d.asksReading("0:1,0:8,1:1", "the second for the second", 3, () -> d.x.serves(), 0, 1, 0);
        d.asksReading("0:1,1:1,0:8", "the first such row", 3, () -> d.x.serves(), 0, 0, 1);
        d.asksReading("0:99", "too much", 0, () -> d.x.serves());
        d.is("fumes", d.x.fumes(0, 1), 1);
        d.asksReading("0:1,1:1", "one is CLOSED", 1, () -> d.x.serves(), 1);
        d.is("fumes", d.x.fumes(1, 1), 1);
        d.asksReading("0:1", "all CLOSED", 0, () -> d.x.serves());
    }

    /** Promise 31: none told; 6: left out; all left out; the first such row. */
    static void picksEdges() {
        Due d = EdgeActsTest.six("picks", "b0c99;b1c99");
        d.asksReading("", "none told", 0, () -> d.x.picks());
        d.asksReading("2:1", "none can", 0, () -> d.x.picks(), 6);
        d.asksReading("2:1,0:2,1:1,3:99,5:1,4:1", "none can", 0, () -> d.x.picks(), 6, 6, 6, 6, 6, 6);
        d.asksReading("0:1,1:1,0:1,1:1,0:1,1:1", "six", 6, () -> d.x.picks(), 0, 0, 0, 0, 0, 0);
        d.asksReading("1:1,0:1,1:1", "the first is left out", 2, () -> d.x.picks(), 6, 0, 0);
        d.asksReading("0:1,0:1,1:1", "the second", 2, () -> d.x.picks(), 0, 6, 0);
        d.asksReading("0:1,1:1,5:9", "the last", 2, () -> d.x.picks(), 0, 0, 6);
        d.is("load", d.x.load(1, 9, 1), 9);
        d.asksReading("1:9,1:1", "all of it", 1, () -> d.x.picks(), 1, 6);
        d.asksReading("1:10", "one too much", 0, () -> d.x.picks(), 6);
        d.asksReading("0:1,1:1,0:1", "the first such row", 3, () -> d.x.picks(), 0, 0, 0);
        d.asksReading("0:1,1:9,1:1", "the first such row", 3, () -> d.x.picks(), 0, 1, 0);
        d.is("fumes", d.x.fumes(1, 1), 1);
        d.asksReading("1:1,0:1,1:1", "one is CLOSED", 2, () -> d.x.picks(), 6, 0, 0);
        d.is("fumes", d.x.fumes(0, 1), 1);
        d.asksReading("0:1", "all CLOSED", 0, () -> d.x.picks(), 6);
    }

    /** Promise 32: empty; CLOSED; no way; just room enough; not to itself. */
    static void emptiesEdges() {
        Due d = Due.landed("empties", "b0c9;b1c4;b2c5;b5c9;l013;x02");
        for (int bad : NO_BIN) {
            d.idle("no BIN", -1, () -> d.x.empties(bad));
        }
        d.is("all", d.x.all(), 0);
        d.asks("empty", 0, () -> d.x.empties(0));
        d.row();
        d.is("load", d.x.load(0, 5, 0), 5);
        d.is("load", d.x.load(1, 4, 0), 9);
        d.asks("just room enough", 0, () -> d.x.empties(0), 2, 1);
        d.is("load", d.x.load(3, 6, 5), 6);
        d.is("load", d.x.load(3, 1, 1), 1);
        d.idle("the second has no room", -3, () -> d.x.empties(0));
        d.is("draw", d.x.draw(5, 2), 0);
        d.asks("room for it", 0, () -> d.x.empties(0), 2, 5);
        d.is("load", d.x.load(0, 1, 5), 5);
        d.asks("of those others MIXED grows", 3, () -> d.x.empties(0), 2, 5);
        d.asks("from the last BIN", 0, () -> d.x.empties(5), 2, 1);
    }

    /** No more than 6 LAYERS; whole; CLOSED ones take nothing. */
    static void emptiesLayers() {
        Due d = EdgeActsTest.six("empties, layers", "b0c99;b1c99;b2c1");
        d.asks("six", 0, () -> d.x.empties(0), 1, 1, 1, 1, 1, 1);
        d.is("load", d.x.load(1, 1, 1), 1);
        d.asks("a BIN takes one of them", 0, () -> d.x.empties(0), 1, 1, 1, 1, 1, 2);
        d.is("load", d.x.load(4, 1, 2), 1);
        d.idle("no way", -3, () -> d.x.empties(0));
        d.is("turn", d.x.turn(0), 6);
        d.asks("the lowest joins", 0, () -> d.x.empties(0), 1, 1, 1, 1, 1, 1);
        d.is("fumes", d.x.fumes(1, 1), 1);
        d.idle("the others are CLOSED, or full", -3, () -> d.x.empties(0));
        d.idle("CLOSED", -2, () -> d.x.empties(1));
        d.is("fumes", d.x.fumes(3, 1), 1);
        d.idle("CLOSED, empty", -2, () -> d.x.empties(3));
        d.is("days", d.x.days(1), 1);
        d.asks("not CLOSED", 0, () -> d.x.empties(3));
        d.row();
    }

    /** Promise 33: d 0, 999; another d; UNIT below WORTH, just so, and never of WORTH 0. */
    static void thenEdges() {
        Due d = Due.landed("then", "g0w2k99;g5w1k0;b0c9;l0599");
        d.is("load", d.x.load(0, 1, 0), 1);
        d.is("load", d.x.load(5, 1, 0), 2);
        for (int bad : new int[] {-1, 1000, MIN, MAX}) {
            d.idle("another d", -1, () -> d.x.then(bad));
        }
        d.asks("now", 3 - 99, () -> d.x.then(0), 0, 0);
        d.asks("KEEP 0", 2 - 99, () -> d.x.then(1), 1, 32);
        d.asks("just kept", 2 - 99, () -> d.x.then(99), 1, 32);
        d.asks("just not", 1 - 99, () -> d.x.then(100), 2, 33);
        d.asks("nothing left", -99, () -> d.x.then(101), 3, 33);
        d.asks("the most", -99, () -> d.x.then(999), 3, 33);
        d.is("price", d.x.price(5, 0), 1);
        d.asks("never of WORTH 0", 1 - 99, () -> d.x.then(100), 1, 1);
        d.is("fumes", d.x.fumes(0, 20), 20);
        d.asks("of a CLOSED one", 2 - 99, () -> d.x.then(119), 0, 0);
        d.asks("of a CLOSED one", 1 - 99, () -> d.x.then(120), 1, 1);
    }

    /** Promise 34: at once, in none; VALUE below 0. */
    static void fallsEdges() {
        Due d = Due.landed("falls", "g0w3k1;b0c9;b5c9;l019");
        for (int bad : NO_BIN) {
            d.idle("no BIN", -1, () -> d.x.falls(bad, 0));
        }
        d.idle("empty, not below 0", -2, () -> d.x.falls(5, 0));
        d.idle("empty, below 1", 0, () -> d.x.falls(5, 1));
        d.is("load", d.x.load(0, 1, 0), 1);
        d.idle("just not below", 2, () -> d.x.falls(0, 3));
        d.idle("just below", 0, () -> d.x.falls(0, 4));
        d.idle("one less", 3, () -> d.x.falls(0, 2));
        d.idle("nothing left", 4, () -> d.x.falls(0, 1));
        d.idle("never", -2, () -> d.x.falls(0, 0));
        d.idle("never", -2, () -> d.x.falls(0, MIN));
        d.idle("at once", 0, () -> d.x.falls(0, MAX));
        d.is("load", d.x.load(1, 1, 0), 2);
        d.idle("at once", 0, () -> d.x.falls(0, -5));
        d.idle("below 0", 2, () -> d.x.falls(0, -6));
        d.idle("below 0", 4, () -> d.x.falls(0, -8));
        d.idle("never", -2, () -> d.x.falls(0, -9));
        d.is("fumes", d.x.fumes(0, 20), 20);
        d.idle("of a CLOSED one", 22, () -> d.x.falls(0, -6));
    }

    /** In 0 .. 999 days: just the last one, one too late. */
    static void fallsLast() {
        Due d = Due.landed("falls, last", "g0w999k0;g1w999k1;g2w999k99;b0c9;b1c9;b2c9");
        for (int b = 0; b < 3; b++) {
            d.is("load", d.x.load(b, 1, b), 1);
        }
        for (int v = 999; v > 0; v -= 37) {
            int below = v;
            d.idle("KEEP 0", 1000 - v, () -> d.x.falls(0, below));
        }
        d.idle("just in 999", 999, () -> d.x.falls(0, 1));
        d.idle("1000 would be too late", -2, () -> d.x.falls(1, 1));
        d.idle("just in 999", 999, () -> d.x.falls(1, 2));
        d.idle("just in 999", 999, () -> d.x.falls(2, 100));
        d.idle("1000 would be too late", -2, () -> d.x.falls(2, 99));
        for (int i = 0; i < 101; i++) {
            d.x.days(99);
        }
        d.is("DAY", d.x.count(0), 9999);
        d.is("load", d.x.load(0, 1, 0), 2);
        d.idle("days above 9999 count", 999, () -> d.x.falls(0, 1));
    }

    /** Promise 35: TONS of LAYERS that are just too old. */
    static void oldEdges() {
        Due d = Due.landed("old", "g0w1k0;g1w0k0;b0c9;b5c9");
        d.asks("nothing lies", 0, () -> d.x.old(), 0, 0, 0, 0, 0, 0, 0);
        d.is("load", d.x.load(0, 2, 5), 2);
        d.is("load", d.x.load(1, 2, 0), 2);
        d.asks("nothing is", 0, () -> d.x.old(), 0, 0, 0, 0, 0, 0, 0);
        d.is("days", d.x.days(1), 1);
        d.is("load", d.x.load(0, 3, 5), 5);
        d.asks("just so", 2, () -> d.x.old(), 0, 0, 0, 0, 0, 2, 32);
        d.is("price", d.x.price(1, 1), 0);
        d.asks("WORTH is above 0 now", 4, () -> d.x.old(), 2, 0, 0, 0, 0, 2, 33);
        d.is("fumes", d.x.fumes(5, 1), 2);
        d.asks("fumigated", 2, () -> d.x.old(), 2, 0, 0, 0, 0, 0, 1);
    }

    /** Promise 36: another n, d; not CLOSED, not empty; more than without. */
    static void curesNone() {
        Due d = Due.landed("cures, none", "g0w9k0;b0c9;b1c9");
        d.is("all", d.x.all(), 0);
        for (int bad : new int[] {0, -1, 21, MIN, MAX}) {
            d.idle("another n", -1, () -> d.x.cures(bad, 0));
        }
        for (int bad : new int[] {-1, 1000, MIN, MAX}) {
            d.idle("another d", -1, () -> d.x.cures(1, bad));
        }
        d.idle("all empty", -2, () -> d.x.cures(1, 9));
        d.is("load", d.x.load(0, 1, 0), 1);
        d.idle("not more than without", -2, () -> d.x.cures(20, 0));
        d.idle("nothing left either way", -2, () -> d.x.cures(1, 10));
        d.asks("1 more", 0, () -> d.x.cures(1, 9), 1);
        d.asks("1 more", 0, () -> d.x.cures(1, 1), 1);
        d.is("fumes", d.x.fumes(0, 1), 1);
        d.idle("CLOSED", -2, () -> d.x.cures(1, 9));
        d.idle("NONE, -2", -1, () -> d.x.cures(21, 9));
        d.is("days", d.x.days(1), 1);
        d.asks("not CLOSED", 0, () -> d.x.cures(1, 9), 1);
    }

    static void curesEdges() {
        Due d = Due.landed("cures", "g0w9k0;g1w999k0;b0c9;b1c9;b5c9");
        d.is("load", d.x.load(0, 1, 5), 1);
        d.is("load", d.x.load(0, 1, 1), 1);
        d.asks("of equal ones the first", 1, () -> d.x.cures(2, 5), 2);
        d.asks("n is more than d", 1, () -> d.x.cures(20, 5), 5);
        d.is("load", d.x.load(0, 1, 5), 2);
        d.asks("the most", 5, () -> d.x.cures(2, 5), 4);
        d.is("load", d.x.load(1, 1, 0), 1);
        d.asks("in 999 days", 0, () -> d.x.cures(20, 999), 20);
        d.asks("in 998 days", 0, () -> d.x.cures(20, 998), 20);
        d.is("days", d.x.days(99), 99);
        d.asks("at once", 0, () -> d.x.cures(1, 0), 99);
        d.is("fumes", d.x.fumes(0, 20), 119);
        d.asks("the others", 5, () -> d.x.cures(1, 0), 18);
    }

    /** All LAYERS of a BIN count. */
    static void curesLayers() {
        Due d = Due.landed("cures, layers", "g0w9k0;g1w5k2;b0c9;b1c9");
        d.is("load", d.x.load(0, 1, 0), 1);
        d.is("load", d.x.load(1, 2, 0), 3);
        d.is("days", d.x.days(4), 4);
        d.is("load", d.x.load(0, 1, 0), 4);
        d.is("load", d.x.load(0, 1, 1), 1);
        d.asks("now", 0, () -> d.x.cures(3, 0), 4 + 4);
        d.asks("in 3 days", 0, () -> d.x.cures(3, 3), 7 + 10 + 3);
        d.asks("in 20 days", 0, () -> d.x.cures(20, 20), 9 + 10 + 9);
    }
}
