/** The edges that Terms and promises 9 to 16 name: what happens, what is refused, and why first. */
public final class EdgeActsTest {
    private static final int MIN = Integer.MIN_VALUE;
    private static final int MAX = Integer.MAX_VALUE;
    private static final int[] NO_BIN = {-1, 6, MIN, MAX};
    private static final int[] NO_TONS = {0, -1, 100, MIN, MAX};

    public static void main(String[] args) {
        loadNone();
        loadFull();
        loadLayers();
        loadWhyFirst();
        drawEdges();
        drawAllOfIt();
        moveNone();
        moveClosed();
        moveFull();
        moveLayers();
        moveApart();
        moveJoins();
        turnEdges();
        fumesEdges();
        daysEdges();
        priceEdges();
        sellsEdges();
        sellsFaults();
        Due.end();
    }

    /** A BIN with six LAYERS of one ton each, of GRADES 0, 1, 0, 1, .. */
    static Due six(String name, String lines) {
        Due d = Due.landed(name, lines);
        for (int i = 0; i < 6; i++) {
            d.is("load", d.x.load(i % 2, 1, 0), i + 1);
        }
        // so that there is a ROW that refused calls must leave
        d.x.all();
        return d;
    }

    static void loadNone() {
        Due d = six("load, none", "b0c99;b1c99");
        for (int bad : NO_BIN) {
            d.idle("no GRADE", -1, () -> d.x.load(bad, 1, 0));
            d.idle("no BIN", -1, () -> d.x.load(0, 1, bad));
            d.idle("neither", -1, () -> d.x.load(bad, 100, bad));
        }
        for (int bad : NO_TONS) {
            d.idle("no TONS", -1, () -> d.x.load(0, bad, 1));
        }
        d.act("the least", 1, () -> d.x.load(5, 1, 1));
        d.act("the rest", 99, () -> d.x.load(5, 98, 1));
        d.is("one LAYER", d.x.bin(1, 2), 1);
        d.is("undo", d.x.undo(), 7);
        d.is("undo", d.x.undo(), 6);
        d.act("the most", 99, () -> d.x.load(5, 99, 1));
        d.idle("not one more", -4, () -> d.x.load(5, 1, 1));
    }

    /** Has room for it: CAP is reached, not passed. */
    static void loadFull() {
        Due d = Due.landed("load, full", "b0c10;b1c1;b2c0");
        d.idle("too much", -4, () -> d.x.load(0, 11, 0));
        d.act("just so much", 10, () -> d.x.load(0, 10, 0));
        d.idle("full", -4, () -> d.x.load(0, 1, 0));
        d.act("just so much", 1, () -> d.x.load(0, 1, 1));
        d.idle("CAP 0", -4, () -> d.x.load(0, 1, 2));
        d.idle("CAP untold", -4, () -> d.x.load(0, 1, 5));
        d.act("draw", 0, () -> d.x.draw(0, 4));
        d.idle("too much", -4, () -> d.x.load(1, 5, 0));
        d.act("just so much", 10, () -> d.x.load(1, 4, 0));
    }

    /** There would be no more than 6 LAYERS; on its like no LAYER is more. */
    static void loadLayers() {
        Due d = six("load, layers", "b0c99");
        d.idle("a seventh", -6, () -> d.x.load(0, 1, 0));
        d.idle("a seventh", -6, () -> d.x.load(5, 1, 0));
        d.act("on its like", 7, () -> d.x.load(1, 1, 0));
        d.act("days", 1, () -> d.x.days(1));
        d.idle("of another SINCE", -6, () -> d.x.load(1, 1, 0));
        d.act("a part", 0, () -> d.x.draw(0, 1));
        d.act("a sixth again", 7, () -> d.x.load(1, 1, 0));
        d.is("LAYERS", d.x.bin(0, 2), 6);
        d.is("its own", d.x.layer(0, 5, 1), 1);
        d.idle("a seventh", -6, () -> d.x.load(0, 1, 0));
        d.act("on its like", 8, () -> d.x.load(1, 1, 0));
        d.is("LAYERS", d.x.bin(0, 2), 6);
    }

    /** Of several answers below 0: NONE, then the others as they are told. */
    static void loadWhyFirst() {
        Due d = six("load, why first", "b0c7;x02");
        d.idle("-4, -5, -6", -4, () -> d.x.load(2, 2, 0));
        d.idle("-4, -6", -4, () -> d.x.load(0, 2, 0));
        d.idle("-5, -6", -5, () -> d.x.load(2, 1, 0));
        d.idle("-6", -6, () -> d.x.load(0, 1, 0));
        d.act("fumes", 1, () -> d.x.fumes(0, 1));
        d.idle("-2, -4, -5, -6", -2, () -> d.x.load(2, 2, 0));
        d.idle("-2, -6", -2, () -> d.x.load(0, 1, 0));
        d.idle("-2", -2, () -> d.x.load(1, 1, 0));
        d.idle("NONE, -2", -1, () -> d.x.load(6, 1, 0));
        d.idle("NONE, -2", -1, () -> d.x.load(1, 100, 0));
        d.act("days", 1, () -> d.x.days(1));
        d.idle("-5, -6", -5, () -> d.x.load(2, 1, 0));
    }

    static void drawEdges() {
        Due d = six("draw", "g0w9k9;g1w5k1;b0c9;b1c9");
        for (int bad : NO_BIN) {
            d.idle("no BIN", -1, () -> d.x.draw(bad, 1));
        }
        for (int bad : NO_TONS) {
            d.idle("no TONS", -1, () -> d.x.draw(0, bad));
        }
        d.idle("empty", -3, () -> d.x.draw(1, 1));
        d.idle("one too much", -3, () -> d.x.draw(0, 7));
        d.idle("much too much", -3, () -> d.x.draw(0, 99));
        d.act("the lowest alone", 9, () -> d.x.draw(0, 1));
        d.row(1, 0, 0, 0, 0, 0);
        d.is("undo", d.x.undo(), 6);
        d.act("two LAYERS", 10, () -> d.x.draw(0, 2));
        d.row(1, 1, 0, 0, 0, 0);
        d.is("undo", d.x.undo(), 6);
        d.act("all", 30, () -> d.x.draw(0, 6));
        d.row(3, 3, 0, 0, 0, 0);
        d.idle("empty now", -3, () -> d.x.draw(0, 1));
        d.act("fumes", 1, () -> d.x.fumes(0, 1));
        d.idle("-2, -3", -2, () -> d.x.draw(0, 1));
        d.idle("NONE, -2", -1, () -> d.x.draw(0, 0));
        d.is("CLOSED till then", d.x.days(1), 1);
        d.idle("-3", -3, () -> d.x.draw(0, 1));
    }

    /** What goes from a BIN: whole LAYERS, and of the last one as much as is wanted; the least UNIT counts. */
    static void drawAllOfIt() {
        Due d = Due.landed("draw, parts", "g0w9k0;g5w2k99;b5c99");
        d.is("load", d.x.load(0, 40, 5), 40);
        d.is("days", d.x.days(9), 9);
        d.is("load", d.x.load(0, 40, 5), 80);
        d.is("load", d.x.load(5, 19, 5), 99);
        d.act("nothing worth", 0, () -> d.x.draw(5, 39));
        d.act("the last ton of a LAYER", 0, () -> d.x.draw(5, 1));
        d.is("LAYERS", d.x.bin(5, 2), 2);
        d.is("undo", d.x.undo(), 5);
        d.act("and one of the next", 0, () -> d.x.draw(5, 2));
        d.row(2, 0, 0, 0, 0, 0);
        d.act("up to the edge", 39 * 9, () -> d.x.draw(5, 39));
        d.act("the last one", 19 * 2, () -> d.x.draw(5, 19));
        d.row(0, 0, 0, 0, 0, 19);
        d.is("empty", d.x.count(4), 63);
    }

    static void moveNone() {
        Due d = six("move, none", "b0c9;b1c9");
        for (int bad : NO_BIN) {
            d.idle("no BIN", -1, () -> d.x.move(bad, 1, 1));
            d.idle("no BIN", -1, () -> d.x.move(0, bad, 1));
            d.idle("no BIN twice", -1, () -> d.x.move(bad, bad, 1));
        }
        for (int bad : NO_TONS) {
            d.idle("no TONS", -1, () -> d.x.move(0, 1, bad));
        }
        for (int b = 0; b < 6; b++) {
            int bin = b;
            d.idle("they are one", -1, () -> d.x.move(bin, bin, 1));
        }
        d.idle("empty", -3, () -> d.x.move(1, 0, 1));
        d.idle("one too much", -3, () -> d.x.move(0, 1, 7));
        d.idle("-3, -4", -3, () -> d.x.move(0, 2, 7));
        d.idle("-4", -4, () -> d.x.move(0, 2, 6));
        d.act("all", 6, () -> d.x.move(0, 1, 6));
        d.lies("1:0x1,1x1,0x1,1x1,0x1,1x1");
        d.is("none of it", d.x.bin(0, 1), 0);
    }

    static void moveClosed() {
        Due d = six("move, closed", "b0c9;b1c9;b2c9");
        d.act("fumes", 2, () -> d.x.fumes(1, 2));
        d.idle("to", -2, () -> d.x.move(0, 1, 1));
        d.idle("from", -2, () -> d.x.move(1, 0, 1));
        d.idle("-2, -3", -2, () -> d.x.move(1, 0, 99));
        d.idle("-2, -3, -4", -2, () -> d.x.move(0, 1, 99));
        d.idle("NONE, -2", -1, () -> d.x.move(1, 1, 1));
        d.idle("NONE, -2", -1, () -> d.x.move(0, 1, 100));
        d.act("neither", 1, () -> d.x.move(0, 2, 1));
        d.act("fumes", 2, () -> d.x.fumes(0, 2));
        d.idle("both", -2, () -> d.x.move(0, 1, 1));
        d.is("days", d.x.days(1), 1);
        d.idle("still", -2, () -> d.x.move(0, 1, 1));
        d.is("days", d.x.days(1), 2);
        d.act("no more", 1, () -> d.x.move(0, 1, 1));
        d.is("SINCE as it is", d.x.layer(1, 0, 2), 2);
    }

    static void moveFull() {
        Due d = Due.landed("move, full", "b0c50;b1c10;b2c99;x01");
        d.is("load", d.x.load(0, 20, 0), 20);
        d.is("load", d.x.load(0, 4, 1), 4);
        d.idle("one too much", -4, () -> d.x.move(0, 1, 7));
        d.act("just so much", 10, () -> d.x.move(0, 1, 6));
        d.is("LAYERS", d.x.bin(1, 2), 1);
        d.row(0, 0);
        d.idle("full", -4, () -> d.x.move(0, 1, 1));
        d.is("load", d.x.load(1, 20, 2), 20);
        d.idle("-4, -5", -4, () -> d.x.move(2, 1, 1));
        d.idle("-5", -5, () -> d.x.move(2, 0, 1));
    }

    /** No more than 6 LAYERS there; nothing goes, if one of them would be too many. */
    static void moveLayers() {
        Due d = six("move, layers", "b0c99;b1c99;b2c99;b3c99;x23");
        d.is("load", d.x.load(2, 1, 1), 1);
        d.is("load", d.x.load(4, 1, 1), 2);
        d.act("four come to two", 6, () -> d.x.move(0, 1, 4));
        d.is("undo", d.x.undo(), 8 - 1);
        d.idle("five", -6, () -> d.x.move(0, 1, 5));
        d.is("draw", d.x.draw(1, 1), 0);
        d.act("five come to one", 6, () -> d.x.move(0, 1, 5));
        d.idle("six lie there", -6, () -> d.x.move(0, 1, 1));
        d.is("load", d.x.load(2, 1, 2), 1);
        d.is("load", d.x.load(3, 1, 3), 1);
        d.idle("-5 by one", -5, () -> d.x.move(2, 3, 1));
        d.idle("-6 by one", -6, () -> d.x.move(2, 1, 1));
    }

    /** -5, -6: whatever of it may not lie there; what is no part of it does not matter. */
    static void moveApart() {
        Due d = Due.landed("move, apart", "b0c99;b1c99;b2c99;x03");
        d.is("load", d.x.load(1, 2, 0), 2);
        d.is("load", d.x.load(2, 2, 0), 4);
        d.is("load", d.x.load(3, 2, 0), 6);
        d.is("load", d.x.load(0, 1, 1), 1);
        d.idle("the third LAYER", -5, () -> d.x.move(0, 1, 6));
        d.idle("a part of it", -5, () -> d.x.move(0, 1, 5));
        d.act("not it", 5, () -> d.x.move(0, 1, 4));
        d.lies("0:3x2;1:0x1,1x2,2x2");
        d.idle("the lowest", -5, () -> d.x.move(0, 1, 1));
        d.idle("the other way", -5, () -> d.x.move(1, 0, 1));
        for (int i = 0; i < 3; i++) {
            d.is("load", d.x.load(i % 2, 1, 1), i + 6);
        }
        d.idle("-5, -6", -5, () -> d.x.move(0, 1, 1));
        d.is("turn", d.x.turn(1), 6);
        d.idle("a GRADE that does not lie on top", -5, () -> d.x.move(0, 1, 1));
    }

    /** The LAYER on top becomes that much more, if GRADE and SINCE are its own: a full BIN of six LAYERS takes it. */
    static void moveJoins() {
        Due d = six("move, joins", "b0c99;b1c99;b2c99");
        d.is("load", d.x.load(1, 4, 1), 4);
        d.is("days", d.x.days(1), 1);
        d.is("load", d.x.load(1, 4, 1), 8);
        d.is("load", d.x.load(1, 4, 2), 4);
        d.act("a part of one", 7, () -> d.x.move(1, 0, 1));
        d.is("LAYERS", d.x.bin(0, 2), 6);
        d.is("TONS on top", d.x.layer(0, 5, 1), 2);
        d.act("all of one", 10, () -> d.x.move(1, 0, 3));
        d.is("LAYERS", d.x.bin(0, 2), 6);
        d.is("TONS on top", d.x.layer(0, 5, 1), 5);
        d.idle("of another SINCE", -6, () -> d.x.move(1, 0, 1));
        d.is("undo", d.x.undo(), 7);
        d.idle("one joins, one is too many", -6, () -> d.x.move(1, 0, 4));
        d.idle("of another SINCE", -6, () -> d.x.move(2, 0, 1));
        d.act("of its SINCE", 8, () -> d.x.move(2, 1, 1));
        d.is("LAYERS", d.x.bin(1, 2), 2);
    }

    static void turnEdges() {
        Due d = six("turn", "b0c9;b1c9;b2c9");
        for (int bad : NO_BIN) {
            d.idle("no BIN", -1, () -> d.x.turn(bad));
        }
        d.act("six", 6, () -> d.x.turn(0));
        d.row(1, 0, 1, 0, 1, 0);
        d.act("none", 0, () -> d.x.turn(1));
        d.row();
        d.is("load", d.x.load(3, 5, 1), 5);
        d.act("one", 1, () -> d.x.turn(1));
        d.row(3);
        d.is("draw", d.x.draw(0, 1), 0);
        d.is("turn five", d.x.turn(0), 5);
        d.row(0, 1, 0, 1, 0);
        d.is("fumes", d.x.fumes(0, 1), 1);
        d.idle("CLOSED", -2, () -> d.x.turn(0));
        d.is("fumes", d.x.fumes(2, 1), 1);
        d.idle("CLOSED, empty", -2, () -> d.x.turn(2));
        d.is("days", d.x.days(1), 1);
        d.is("not CLOSED", d.x.turn(0), 5);
        d.is("not CLOSED", d.x.turn(2), 0);
    }

    static void fumesEdges() {
        Due d = six("fumes", "b0c9;b1c9;b2c9");
        for (int bad : NO_BIN) {
            d.idle("no BIN", -1, () -> d.x.fumes(bad, 1));
        }
        for (int bad : new int[] {0, -1, 21, MIN, MAX}) {
            d.idle("another n", -1, () -> d.x.fumes(0, bad));
        }
        d.act("the least", 1, () -> d.x.fumes(0, 1));
        d.is("six LAYERS still", d.x.bin(0, 2), 6);
        d.idle("CLOSED", -2, () -> d.x.fumes(0, 1));
        d.idle("NONE, -2", -1, () -> d.x.fumes(0, 21));
        d.act("empty, the most", 20, () -> d.x.fumes(1, 20));
        d.is("days", d.x.days(1), 1);
        d.idle("not CLOSED", 0, () -> d.x.bin(0, 3));
        d.act("once more", 2, () -> d.x.fumes(0, 1));
        d.is("days", d.x.days(18), 19);
        d.idle("CLOSED on the last day", -2, () -> d.x.fumes(1, 1));
        d.is("days", d.x.days(1), 20);
        d.act("not CLOSED", 40, () -> d.x.fumes(1, 20));
        fumesJoins();
    }

    /** Those that lie on one another of one GRADE become one. */
    static void fumesJoins() {
        Due d = Due.landed("fumes, joins", "b0c9");
        for (int i = 0; i < 6; i++) {
            d.is("load", d.x.load(4, 1, 0), i + 1);
            d.is("days", d.x.days(1), i + 1);
        }
        d.is("six LAYERS", d.x.bin(0, 2), 6);
        d.is("fumes", d.x.fumes(0, 5), 11);
        d.lies("0:4x6");
        d.is("SINCE", d.x.layer(0, 0, 2), 11);
    }

    static void daysEdges() {
        Due d = new Due("days");
        for (int bad : new int[] {0, -1, 100, MIN, MAX}) {
            d.idle("another n", -1, () -> d.x.days(bad));
        }
        d.act("the least", 1, () -> d.x.days(1));
        for (int day = 100; day < 9999; day += 99) {
            d.is("the most", d.x.days(99), day);
        }
        d.is("DAY", d.x.count(0), 9901);
        d.idle("9900 and 99 would be just 9999, this is one more", -1, () -> d.x.days(99));
        d.act("just 9999", 9999, () -> d.x.days(98));
        for (int n = 1; n < 100; n += 49) {
            int more = n;
            d.idle("above 9999", -1, () -> d.x.days(more));
        }
        d.idle("another n", -1, () -> d.x.days(0));
        d.is("undo", d.x.undo(), 7);
        d.is("DAY", d.x.count(0), 9901);
        d.is("9998", d.x.days(97), 9998);
        d.idle("above 9999", -1, () -> d.x.days(2));
        d.is("9999", d.x.days(1), 9999);
        d.is("OPEN may be above it", d.x.fumes(0, 20), 10019);
        d.idle("CLOSED for good", 20, () -> d.x.bin(0, 3));
        d.asks("days to come are no DAY", 0, () -> d.x.then(999), 0, 0);
    }

    static void priceEdges() {
        Due d = Due.landed("price", Due.YARD);
        for (int bad : NO_BIN) {
            d.idle("no GRADE", -1, () -> d.x.price(bad, 1));
        }
        for (int bad : new int[] {-1, 1000, MIN, MAX}) {
            d.idle("another w", -1, () -> d.x.price(0, bad));
        }
        d.act("the most", 100, () -> d.x.price(0, 999));
        d.act("the least", 999, () -> d.x.price(0, 0));
        d.act("to what it is", 0, () -> d.x.price(0, 0));
        d.act("of an untold one", 0, () -> d.x.price(5, 1));
        d.is("WORTH", d.x.grade(5, 0), 1);
        d.row();
    }

    static void sellsEdges() {
        Due d = Due.landed("sells", "g0w9k9;g1w5k9;b0c99;b1c99;b2c99;l013");
        d.is("load", d.x.load(0, 3, 0), 3);
        d.is("load", d.x.load(1, 3, 0), 6);
        d.is("load", d.x.load(0, 99, 1), 99);
        d.is("load", d.x.load(1, 2, 2), 2);
        int value = 27 + 15 - 9 + 891 + 10;
        d.act("an empty THE TEXT", 0, () -> sell(d, ""));
        d.row(0, value, value);
        d.act("the first can't be drawn", 0, () -> sell(d, "1:3,0:3"));
        d.row(0, value, value);
        d.act("no such GRADE lies", 0, () -> sell(d, "5:1,0:1"));
        d.row(0, value, value);
        d.act("six", 6, () -> sell(d, "0:99,0:1,0:1,0:1,1:2,1:3"));
        d.row(102 * 9 + 5 * 5, value, 0);
        d.is("drawn", d.x.count(6), 102 * 9 + 5 * 5);
        d.is("empty", d.x.count(4), 63);
        d.act("nothing lies", 0, () -> sell(d, "0:1"));
        d.row(0, 0, 0);
        d.is("CLOSED", d.x.fumes(1, 1), 1);
        d.is("load", d.x.load(0, 1, 2), 1);
        d.is("fumes", d.x.fumes(2, 1), 1);
        d.act("CLOSED", 0, () -> sell(d, "0:1"));
    }

    private static int sell(Due d, String text) {
        d.text(text);
        int sold = d.x.sells();
        d.is("signs", d.x.count(8), 0);
        return sold;
    }

    /** -21 - p: nothing is drawn; each sign of ORDERS at fault. */
    static void sellsFaults() {
        Due d = Due.landed("sells, faults", "g0w9k9;b0c99");
        d.is("load", d.x.load(0, 99, 0), 99);
        d.asks("all", 891, () -> d.x.all(), 891, 0, 0, 0, 0, 0);
        String[] told = {"0", "0:", "0:0", "0:00", "0:100", "0:1x", "0:1,", "0:1,,0:1", ",0:1", "6:1", "/:1", "::1",
            "0::", "0:/", "0:1:", "0:1/", "0;1", "0:1;0:1", "00:1", "0:01", "0:1,0:1,0:1,0:1,0:1,0:1,",
            "0:1,0:1,0:1,0:1,0:1,0:1,0:1", "0:1,0:1,0:1,0:1,0:1,0:1;", "0:99,0:99,6", "g0w1k1", " ", "\u00ff"};
        int[] p = {1, 2, 2, 2, 4, 3, 4, 4, 0, 0, 0, 0, 2, 2, 3, 3, 1, 3, 1, 2, 23, 23, 23, 10, 0, 0, 0};
        for (int i = 0; i < told.length; i++) {
            d.idleReads(told[i], "sells", -21 - p[i], () -> d.x.sells());
            d.idleReads(told[i], "lays", -21 - p[i], () -> d.x.lays());
            d.idleReads(told[i], "few", -21 - p[i], () -> d.x.few());
            d.idleReads(told[i], "serves", -21 - p[i], () -> d.x.serves());
            d.idleReads(told[i], "picks", -21 - p[i], () -> d.x.picks());
        }
        // a fault comes first, though there would be no way either
        d.idleReads("0:99,0:99,0:0", "lays", -21 - 12, () -> d.x.lays());
        d.idleReads("0:99,0:99,0:0", "few", -21 - 12, () -> d.x.few());
    }
}
