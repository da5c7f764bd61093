/** The edges that promises 17 to 27 name: worth, and where more would lie best. */
public final class EdgeWorthTest {
    private static final int MIN = Integer.MIN_VALUE;
    private static final int MAX = Integer.MAX_VALUE;
    private static final int[] NO_BIN = {-1, 6, MIN, MAX};
    private static final int[] NO_TONS = {0, -1, 100, MIN, MAX};

    public static void main(String[] args) {
        valueEdges();
        valueMost();
        allEdges();
        mixedEdges();
        wouldEdges();
        worstEdges();
        dearEdges();
        bestEdges();
        laysEdges();
        laysOnTop();
        laysLike();
        fewEdges();
        roomEdges();
        takersEdges();
        Due.end();
    }

    /** Promise 17: VALUE may be below 0, the ROW tells of it then, too; an empty BIN; a CLOSED one. */
    static void valueEdges() {
        Due d = Due.landed("value", "g0w1k0;b0c9;b1c9;l013");
        for (int bad : NO_BIN) {
            d.idle("no BIN", -1, () -> d.x.value(bad));
        }
        d.asks("empty", 0, () -> d.x.value(0), 0, 0, 0);
        d.is("load", d.x.load(0, 2, 0), 2);
        d.is("load", d.x.load(1, 1, 0), 3);
        d.asks("-1 is meant", -1, () -> d.x.value(0), 2, 3, 2);
        d.is("load", d.x.load(1, 1, 0), 4);
        d.asks("-4 is meant", -4, () -> d.x.value(0), 2, 6, 2);
        d.is("load", d.x.load(1, 1, 0), 5);
        d.asks("of that of which there are fewer", -4, () -> d.x.value(0), 2, 6, 2);
        d.is("fumes", d.x.fumes(0, 2), 2);
        d.asks("CLOSED", -4, () -> d.x.value(0), 2, 6, 2);
        d.is("days", d.x.days(2), 2);
        d.asks("not too old", -4, () -> d.x.value(0), 2, 6, 2);
        d.is("days", d.x.days(1), 3);
        d.asks("too old", -6, () -> d.x.value(0), 0, 6, 2);
        d.is("days", d.x.days(99), 102);
        d.asks("UNIT 0 at least", -6, () -> d.x.value(0), 0, 6, 2);
    }

    /** The greatest and the least there can be. */
    static void valueMost() {
        Due d = Due.landed("most", "g0w999k99;b0c99;b1c99;b2c99;b3c99;b4c99;b5c99;l1299;l1399;l2399");
        for (int b = 0; b < 5; b++) {
            d.is("load", d.x.load(0, 99, b), 99);
        }
        for (int g = 1; g < 4; g++) {
            d.is("load", d.x.load(g, 33, 5), 33 * g);
        }
        d.asks("all", 5 * 98901 - 9801, () -> d.x.all(), 98901, 98901, 98901, 98901, 98901, -9801);
        d.asks("least", -9801, () -> d.x.value(5), 0, 9801, 0);
        d.asks("most", 98901, () -> d.x.value(0), 98901, 0, 98901);
        d.asks("dear", 0, () -> d.x.dear(), 494505, 0, 0, 0, 0, 0);
        for (int b = 0; b < 5; b++) {
            d.is("draw", d.x.draw(b, 99), 98901);
        }
        d.is("drawn", d.x.count(6), 494505);
    }

    /** Promise 18: an answer below 0 is meant, the ROW is told with it. */
    static void allEdges() {
        Due d = Due.landed("all", "g0w1k9;b0c9;b5c9;l011");
        d.asks("nothing lies", 0, () -> d.x.all(), 0, 0, 0, 0, 0, 0);
        d.is("price", d.x.price(0, 0), 1);
        d.is("load", d.x.load(0, 1, 5), 1);
        d.is("load", d.x.load(1, 1, 5), 2);
        d.asks("-1 is meant", -1, () -> d.x.all(), 0, 0, 0, 0, 0, -1);
        d.is("load", d.x.load(0, 1, 0), 1);
        d.is("load", d.x.load(1, 1, 0), 2);
        d.asks("-2 is meant", -2, () -> d.x.all(), -1, 0, 0, 0, 0, -1);
    }

    /** Promise 19: 0 of itself; by the other GRADES, the last one too. */
    static void mixedEdges() {
        Due d = Due.landed("mixed", "b0c9;b5c9;l0599;l457");
        d.asks("nothing lies", 0, () -> d.x.mixed(0), 0, 0, 0, 0, 0, 0);
        d.is("load", d.x.load(5, 2, 0), 2);
        d.is("load", d.x.load(5, 2, 5), 2);
        d.asks("with itself", 0, () -> d.x.mixed(5), 0, 0, 0, 0, 0, 0);
        d.is("load", d.x.load(0, 1, 0), 3);
        d.is("load", d.x.load(4, 3, 5), 5);
        d.asks("mixed", 113, () -> d.x.mixed(5), 99, 0, 0, 0, 14, 0);
        d.asks("mixed", 99, () -> d.x.mixed(0), 0, 0, 0, 0, 0, 99);
        d.asks("mixed", 14, () -> d.x.mixed(4), 0, 0, 0, 0, 0, 14);
        d.asks("none", 0, () -> d.x.mixed(3), 0, 0, 0, 0, 0, 0);
        for (int bad : NO_BIN) {
            d.idle("no GRADE", -1, () -> d.x.mixed(bad));
        }
    }

    /** Promise 20: NONE; why it may not lie there; an answer below 0 that is meant. */
    static void wouldEdges() {
        Due d = EdgeActsTest.six("would", "g0w2k0;g1w1k0;b0c8;b1c9;l013;x12");
        for (int bad : NO_BIN) {
            d.idle("no GRADE", -1, () -> d.x.would(bad, 1, 0));
            d.idle("no BIN", -1, () -> d.x.would(0, 1, bad));
        }
        for (int bad : NO_TONS) {
            d.idle("no TONS", -1, () -> d.x.would(0, bad, 0));
        }
        d.asks("full", 2, () -> d.x.would(1, 2, 0), 6 + 5 - 9, 9);
        d.idle("one too much", -1000004, () -> d.x.would(1, 3, 0));
        d.idle("-4, -5, -6", -1000004, () -> d.x.would(2, 3, 0));
        d.idle("-5, -6", -1000005, () -> d.x.would(2, 1, 0));
        d.idle("-6", -1000006, () -> d.x.would(0, 1, 0));
        d.idle("CAP 0", -1000004, () -> d.x.would(0, 1, 5));
        d.is("load", d.x.load(0, 3, 1), 3);
        d.asks("-2 is meant", -2, () -> d.x.would(1, 1, 1), 4, 3);
        d.asks("-6 is meant", -6, () -> d.x.would(1, 3, 1), 0, 9);
        d.asks("and more than these", -6 + 3, () -> d.x.would(1, 6, 1), 6 + 6 - 9, 9);
        d.is("price", d.x.price(1, 2), 1);
        d.asks("-1 is meant", -1, () -> d.x.would(1, 1, 1), 5, 3);
        d.is("fumes", d.x.fumes(0, 1), 1);
        d.idle("-2, -4, -5, -6", -1000002, () -> d.x.would(2, 3, 0));
        d.idle("NONE, -2", -1, () -> d.x.would(2, 0, 0));
    }

    /** Promise 21: nothing is MIXED above 0; of equal ones the first BIN, then the lesser GRADES. */
    static void worstEdges() {
        Due d = Due.landed("worst", "b0c9;b1c9;b5c9;l451;l351;l341;l021");
        d.is("all", d.x.all(), 0);
        d.idle("nothing lies", -2, () -> d.x.worst());
        d.is("load", d.x.load(5, 3, 5), 3);
        d.idle("one GRADE", -2, () -> d.x.worst());
        d.is("load", d.x.load(1, 3, 5), 6);
        d.idle("no LOSS", -2, () -> d.x.worst());
        d.is("load", d.x.load(4, 1, 1), 1);
        d.idle("not in one BIN", -2, () -> d.x.worst());
        d.is("load", d.x.load(4, 1, 5), 7);
        d.asks("just 1", 45, () -> d.x.worst(), 1, 5);
        d.is("load", d.x.load(3, 1, 1), 2);
        d.asks("the first BIN", 34, () -> d.x.worst(), 1, 1);
        d.is("load", d.x.load(5, 1, 1), 3);
        d.asks("the lesser GRADES", 34, () -> d.x.worst(), 1, 1);
        d.is("load", d.x.load(0, 1, 0), 1);
        d.is("load", d.x.load(2, 1, 0), 2);
        d.asks("GRADE 0 too, the lesser one ahead", 2, () -> d.x.worst(), 1, 0);
        d.is("load", d.x.load(4, 1, 5), 8);
        d.asks("most", 45, () -> d.x.worst(), 2, 5);
        d.is("fumes", d.x.fumes(5, 1), 1);
        d.asks("CLOSED", 45, () -> d.x.worst(), 2, 5);
    }

    /** Promise 22: nothing is worth anything; of equal ones the first. */
    static void dearEdges() {
        Due d = Due.landed("dear", "g0w1k0;g5w1k0;b0c9;b1c9");
        d.is("all", d.x.all(), 0);
        d.idle("nothing lies", -2, () -> d.x.dear());
        d.is("load", d.x.load(3, 9, 1), 9);
        d.idle("WORTH 0", -2, () -> d.x.dear());
        d.is("load", d.x.load(5, 1, 0), 1);
        d.asks("just 1", 5, () -> d.x.dear(), 0, 0, 0, 0, 0, 1);
        d.is("load", d.x.load(0, 1, 0), 2);
        d.asks("of equal ones the first", 0, () -> d.x.dear(), 1, 0, 0, 0, 0, 1);
        d.is("load", d.x.load(5, 1, 0), 3);
        d.asks("all LAYERS of it", 5, () -> d.x.dear(), 1, 0, 0, 0, 0, 2);
        d.is("days", d.x.days(1), 1);
        d.idle("all too old", -2, () -> d.x.dear());
    }

    /** Promise 23: none; of equal ones the first; less than now is meant. */
    static void bestEdges() {
        Due d = Due.landed("best", "b1c5;b2c5;b3c6;l012;l021");
        d.is("all", d.x.all(), 0);
        for (int bad : NO_BIN) {
            d.idle("no GRADE", -1, () -> d.x.best(bad, 1));
        }
        for (int bad : NO_TONS) {
            d.idle("no TONS", -1, () -> d.x.best(0, bad));
        }
        d.idle("no room", -2, () -> d.x.best(0, 7));
        d.asks("just so much", 3, () -> d.x.best(0, 6), 0);
        d.asks("the first", 1, () -> d.x.best(0, 5), 0);
        d.is("load", d.x.load(1, 1, 1), 1);
        d.is("load", d.x.load(2, 1, 2), 1);
        d.is("load", d.x.load(1, 1, 3), 1);
        d.asks("-1 is more than -2", 2, () -> d.x.best(0, 1), -1);
        d.is("load", d.x.load(2, 4, 2), 5);
        d.asks("of equal ones the first", 1, () -> d.x.best(0, 1), -2);
        for (int b = 1; b < 4; b++) {
            d.is("fumes", d.x.fumes(b, 1), 1);
        }
        d.idle("all CLOSED", -2, () -> d.x.best(0, 1));
        d.idle("NONE, -2", -1, () -> d.x.best(0, 100));
    }

    /** Promise 24: none told; six told; laid whole; there is no way. */
    static void laysEdges() {
        Due d = Due.landed("lays", "g0w2k0;b0c10;b1c10;x12");
        d.asksReading("", "lays", 0, () -> d.x.lays(), 0);
        d.asksReading("0:10", "lays", 1, () -> d.x.lays(), 20, 0);
        d.idleReads("0:11", "not in parts", -2, () -> d.x.lays());
        d.asksReading("0:10,0:10", "just full", 2, () -> d.x.lays(), 40, 0, 1);
        d.idleReads("0:10,0:10,0:1", "one too much", -2, () -> d.x.lays());
        d.idleReads("0:99,0:99,0:99,0:99,0:99,0:99", "much too much", -2, () -> d.x.lays());
        d.asksReading("1:1,2:1,1:1,2:1,1:1,2:1", "six", 6, () -> d.x.lays(), 0, 0, 1, 0, 1, 0, 1);
        d.asksReading("0:6,0:4,0:5,0:2,0:3", "the first way", 5, () -> d.x.lays(), 40, 0, 0, 1, 1, 1);
        d.asksReading("0:2,0:7,0:3,0:8", "not the first BIN", 4, () -> d.x.lays(), 40, 0, 1, 1, 0);
        d.is("load", d.x.load(1, 1, 0), 1);
        d.is("load", d.x.load(1, 1, 1), 1);
        d.idleReads("0:1,2:1", "one may lie nowhere", -2, () -> d.x.lays());
        d.asksReading("0:1,1:8", "the other ones may", 2, () -> d.x.lays(), 2, 0, 0);
        d.is("fumes", d.x.fumes(0, 1), 1);
        d.asksReading("0:1,1:8", "CLOSED", 2, () -> d.x.lays(), 2, 1, 1);
        d.is("fumes", d.x.fumes(1, 1), 1);
        d.idleReads("0:1", "all CLOSED", -2, () -> d.x.lays());
        d.asksReading("", "none in CLOSED ones", 0, () -> d.x.lays(), 0);
    }

    /** SINCE this DAY: on its like no LAYER is more, on an older one it is. */
    static void laysOnTop() {
        Due d = EdgeActsTest.six("lays, on top", "b0c99");
        d.asksReading("1:1,1:1", "on its like", 2, () -> d.x.lays(), 0, 0, 0);
        d.asksReading("1:1,1:1", "on its like", 1, () -> d.x.few(), 1);
        d.idleReads("1:1,0:1", "a seventh", -2, () -> d.x.lays());
        d.idleReads("1:1,0:1", "a seventh", -2, () -> d.x.few());
        d.is("draw", d.x.draw(0, 1), 0);
        d.asksReading("0:1,0:1", "a sixth", 2, () -> d.x.lays(), 0, 0, 0);
        d.idleReads("0:1,1:1", "a seventh", -2, () -> d.x.lays());
        d.asksReading("1:1,0:1", "a sixth", 1, () -> d.x.few(), 1);
        d.is("days", d.x.days(1), 1);
        d.asksReading("1:1,1:1", "a sixth, SINCE this DAY", 1, () -> d.x.few(), 1);
        d.is("load", d.x.load(0, 1, 0), 6);
        d.idleReads("1:1", "a seventh", -2, () -> d.x.lays());
        d.is("days", d.x.days(1), 2);
        d.idleReads("0:1", "of another SINCE", -2, () -> d.x.lays());
        d.idleReads("0:1", "of another SINCE", -2, () -> d.x.few());
    }

    /** How much more may be below 0; of like ways the first row. */
    static void laysLike() {
        Due d = Due.landed("lays, like", "g0w1k0;b0c9;b1c9;l019;l023");
        d.is("load", d.x.load(1, 9, 0), 9);
        d.is("load", d.x.load(2, 1, 1), 1);
        d.asksReading("0:1", "less is meant", 1, () -> d.x.lays(), -2, 1);
        d.asksReading("0:1,0:7", "no more is lost by more", 2, () -> d.x.lays(), 8 - 3, 1, 1);
        d.is("undo", d.x.undo(), 1);
        d.asksReading("0:1,3:1,4:1", "of like ways the first row", 3, () -> d.x.lays(), 1, 1, 1, 1);
        d.is("draw", d.x.draw(0, 1), 0);
        d.is("load", d.x.load(2, 1, 1), 1);
        d.asksReading("3:1,4:1,1:7", "of like ways the first row", 3, () -> d.x.lays(), 0, 0, 1, 1);
    }

    /** Promise 25: none told; the fewest; the least bits; no way. */
    static void fewEdges() {
        Due d = Due.landed("few", "b0c1;b1c4;b4c5;b5c5;x01");
        d.asksReading("", "none", 0, () -> d.x.few(), 0);
        d.asksReading("0:1", "one", 1, () -> d.x.few(), 1);
        d.asksReading("0:1,0:1", "one takes both", 1, () -> d.x.few(), 2);
        d.asksReading("0:5", "the least bits", 1, () -> d.x.few(), 16);
        d.asksReading("0:1,1:1", "unlike BINS", 2, () -> d.x.few(), 3);
        d.asksReading("0:1,1:1,0:1", "not the first for the first", 2, () -> d.x.few(), 3);
        d.asksReading("0:4,0:1,0:5", "fewer, though of more bits", 2, () -> d.x.few(), 48);
        d.asksReading("0:4,0:1,0:5,0:5", "all that there is", 4, () -> d.x.few(), 51);
        d.idleReads("0:6", "too much", -2, () -> d.x.few());
        d.idleReads("0:5,0:5,0:5", "too much", -2, () -> d.x.few());
        d.is("fumes", d.x.fumes(4, 1), 1);
        d.asksReading("0:5", "the other is CLOSED", 1, () -> d.x.few(), 32);
        d.is("fumes", d.x.fumes(5, 1), 1);
        d.idleReads("0:5", "both CLOSED", -2, () -> d.x.few());
    }

    /** Promise 26: 0 .. 99; that BIN, of equal ones the first; NONE: 0. */
    static void roomEdges() {
        Due d = Due.landed("room", "b2c99;b3c99;b4c1");
        for (int bad : NO_BIN) {
            d.idle("no GRADE", -1, () -> d.x.room(bad));
        }
        d.asks("the most", 99, () -> d.x.room(0), 2);
        d.is("load", d.x.load(0, 99, 2), 99);
        d.asks("the other one", 99, () -> d.x.room(0), 3);
        d.is("load", d.x.load(0, 99, 3), 99);
        d.asks("just 1", 1, () -> d.x.room(5), 4);
        d.is("load", d.x.load(0, 1, 4), 1);
        d.asks("nothing", 0, () -> d.x.room(0), -1);
        d.is("draw", d.x.draw(2, 9), 0);
        d.is("fumes", d.x.fumes(2, 1), 1);
        d.asks("CLOSED", 0, () -> d.x.room(0), -1);
        d.is("days", d.x.days(1), 1);
        d.asks("not CLOSED", 9, () -> d.x.room(0), 2);
    }

    /** Promise 27: TONS not 1 .. 99; some GRADE; in how many BINS. */
    static void takersEdges() {
        Due d = EdgeActsTest.six("takers", "b0c99;b1c99;b5c1;x12;x02;x13;x14;x15;x23;x24;x25");
        for (int bad : NO_TONS) {
            d.idle("no TONS", -1, () -> d.x.takers(bad));
        }
        d.asks("the most", 2, () -> d.x.takers(99), 1, 1, 1, 1, 1, 1);
        d.asks("just what is free", 3, () -> d.x.takers(93), 1, 2, 1, 1, 1, 1);
        d.asks("the least", 35, () -> d.x.takers(1), 2, 3, 2, 2, 2, 2);
        d.is("load", d.x.load(2, 1, 1), 1);
        d.asks("for one GRADE alone", 35, () -> d.x.takers(1), 1, 2, 2, 1, 1, 1);
        d.is("days", d.x.days(1), 1);
        d.asks("six LAYERS of another SINCE", 34, () -> d.x.takers(1), 1, 1, 2, 1, 1, 1);
        d.is("fumes", d.x.fumes(1, 1), 2);
        d.is("fumes", d.x.fumes(5, 1), 2);
        d.asks("none", 0, () -> d.x.takers(1), 0, 0, 0, 0, 0, 0);
    }
}
