/** The edges that Terms 2 and promises 37 to 42 name: ACTS, what is taken back and kept, the ROW. */
public final class EdgeKeptTest {
    private static final int MIN = Integer.MIN_VALUE;
    private static final int MAX = Integer.MAX_VALUE;

    public static void main(String[] args) {
        undoEight();
        undoAround();
        undoIsNoAct();
        undoLeaves();
        backNothing();
        backEach();
        backUndone();
        keptTwice();
        writtenEdges();
        writtenTons();
        countEdges();
        rowEdges();
        rowStays();
        rowWhereMeant();
        Due.end();
    }

    static void undoEight() {
        Due d = Due.landed("undo, eight", "b0c99");
        d.idle("none", -2, () -> d.x.undo());
        for (int i = 1; i <= 9; i++) {
            d.is("load", d.x.load(0, 1, 0), i);
            d.is("eight at most", d.x.count(5), Math.min(i, 8));
        }
        for (int left = 7; left >= 0; left--) {
            d.is("undo", d.x.undo(), left);
            d.is("tons", d.x.count(1), left + 1);
        }
        d.idle("the first of nine stays", -2, () -> d.x.undo());
        d.is("tons", d.x.count(1), 1);
    }

    /** The eight places come round: acts and undos in turn, at every place. */
    static void undoAround() {
        Due d = Due.landed("undo, around", "b0c99");
        int tons = 0;
        int acts = 0;
        for (int round = 1; round <= 11; round++) {
            for (int i = 0; i < round; i++) {
                tons++;
                acts = Math.min(8, acts + 1);
                d.is("load", d.x.load(0, 1, 0), tons);
            }
            for (int i = 0; i < round - 1 && acts > 0; i++) {
                tons--;
                acts--;
                d.is("undo", d.x.undo(), acts);
                d.is("tons", d.x.count(1), tons);
            }
        }
        for (; acts > 0; acts--) {
            tons--;
            d.is("undo", d.x.undo(), acts - 1);
            d.is("tons", d.x.count(1), tons);
        }
        d.idle("none", -2, () -> d.x.undo());
    }

    static void undoIsNoAct() {
        Due d = Due.landed("undo is no act", "b0c99");
        d.is("load", d.x.load(0, 1, 0), 1);
        d.is("load", d.x.load(0, 2, 0), 3);
        d.is("undo", d.x.undo(), 1);
        d.is("undo", d.x.undo(), 0);
        d.idle("not again what was undone", -2, () -> d.x.undo());
        d.is("tons", d.x.count(1), 0);
        d.is("keeps", d.x.keeps(), 0);
        d.idle("keeps is none", -2, () -> d.x.undo());
        d.is("kept still", d.x.back(), 0);
    }

    /** What is no ACT stays as it is: THE TEXT, the ROW, what is kept. */
    static void undoLeaves() {
        Due d = Due.landed("undo leaves", Due.YARD);
        d.is("load", d.x.load(0, 1, 0), 1);
        d.is("draw", d.x.draw(0, 1), 100);
        d.is("keeps", d.x.keeps(), 0);
        d.text("0:1");
        d.is("undo", d.x.undo(), 1);
        d.row(1, 0, 0, 0, 0, 0);
        d.is("drawn", d.x.count(6), 0);
        d.is("serves", d.x.serves(), 1);
        d.is("undo", d.x.undo(), 0);
        d.row(0);
        d.is("back", d.x.back(), 0);
        d.is("tons", d.x.count(1), 0);
        d.is("drawn", d.x.count(6), 100);
    }

    static void backNothing() {
        Due d = Due.landed("back, nothing", Due.YARD);
        d.idle("nothing is kept", -2, () -> d.x.back());
        d.is("keeps", d.x.keeps(), 0);
        d.is("days", d.x.days(9), 9);
        d.act("kept", 0, () -> d.x.back());
        d.idleReads("g", "land", -22, () -> d.x.land());
        d.act("kept still", 0, () -> d.x.back());
        d.text("b0c9");
        d.is("land", d.x.land(), 1);
        d.idle("nothing is kept since land()", -2, () -> d.x.back());
        d.is("keeps", d.x.keeps(), 0);
        d.is("land", d.x.land(), 0);
        d.idle("nothing is kept since land()", -2, () -> d.x.back());
    }

    /** All that is: WORTH, DAY, LAYERS with SINCE, OPEN, what was drawn. */
    static void backEach() {
        Due d = Due.landed("back, each", Due.YARD);
        d.is("load", d.x.load(0, 9, 0), 9);
        d.is("load", d.x.load(1, 9, 0), 18);
        d.is("days", d.x.days(3), 3);
        d.is("load", d.x.load(1, 9, 1), 9);
        d.is("draw", d.x.draw(0, 2), 200);
        d.is("fumes", d.x.fumes(2, 4), 7);
        d.is("price", d.x.price(1, 91), 90);
        int acts = d.x.count(5);
        String was = d.state();
        d.is("keeps", d.x.keeps(), 3);
        d.is("keeps is no ACT", d.x.count(5), acts);
        d.is("days", d.x.days(4), 7);
        d.is("load", d.x.load(2, 9, 2), 9);
        d.is("draw", d.x.draw(0, 9), 819);
        d.is("move", d.x.move(0, 1, 3), 12);
        d.is("turn", d.x.turn(0), 1);
        d.is("fumes", d.x.fumes(0, 20), 27);
        d.is("price", d.x.price(1, 0), 91);
        d.is("price", d.x.price(5, 5), 0);
        d.is("back", d.x.back(), 3);
        d.is("as an ACT", d.x.count(5), 8);
        for (int left = 7; left >= 0; left--) {
            d.is("undo", d.x.undo(), left);
        }
        d.is("the first of nine stays", d.x.count(0), 7);
        d.is("back", d.x.back(), 3);
        d.is("WORTH", d.x.grade(1, 0), 91);
        d.is("OPEN", d.x.bin(2, 3), 4);
        d.is("SINCE", d.x.layer(1, 0, 2), 3);
        d.is("drawn", d.x.count(6), 200);
        while (d.x.count(5) < acts) {
            d.is("as kept", d.x.back(), 3);
        }
        d.is("all as kept", d.state().equals(was), true);
    }

    /** back() is an ACT; what is kept stays kept, whatever is done. */
    static void backUndone() {
        Due d = Due.landed("back, undone", Due.YARD);
        d.is("load", d.x.load(0, 9, 0), 9);
        d.is("keeps", d.x.keeps(), 0);
        d.is("load", d.x.load(0, 9, 0), 18);
        d.is("back", d.x.back(), 0);
        d.is("tons", d.x.count(1), 9);
        d.is("undo", d.x.undo(), 2);
        d.is("tons", d.x.count(1), 18);
        d.is("load", d.x.load(0, 1, 0), 19);
        for (int i = 0; i < 9; i++) {
            d.is("back", d.x.back(), 0);
            d.is("tons", d.x.count(1), 9);
            d.is("load", d.x.load(0, 1, 0), 10);
        }
        d.is("acts", d.x.count(5), 8);
    }

    static void keptTwice() {
        Due d = Due.landed("kept twice", Due.YARD);
        d.is("keeps", d.x.keeps(), 0);
        d.is("days", d.x.days(5), 5);
        d.is("in place of what was", d.x.keeps(), 5);
        d.is("days", d.x.days(5), 10);
        d.is("back", d.x.back(), 5);
        d.is("undo", d.x.undo(), 2);
        d.is("undo", d.x.undo(), 1);
        d.is("undo", d.x.undo(), 0);
        d.is("DAY", d.x.count(0), 0);
        d.is("kept, though it was undone", d.x.back(), 5);
        d.idle("DAY", 5, () -> d.x.count(0));
    }

    /** Promise 40: i NONE: how many signs; no such sign. */
    static void writtenEdges() {
        Due d = Due.landed("written", "b0c99;b5c99");
        for (int bad : new int[] {0, 1, -2, MIN, MAX}) {
            d.idle("no sign", -1, () -> d.x.written(bad));
        }
        d.idle("none", 0, () -> d.x.written(-1));
        d.is("load", d.x.load(5, 1, 5), 1);
        d.lies("5:5x1");
        d.idle("the first", '5', () -> d.x.written(0));
        d.idle("the last", '1', () -> d.x.written(4));
        for (int bad : new int[] {5, -2, MIN, MAX}) {
            d.idle("no sign", -1, () -> d.x.written(bad));
        }
        d.is("load", d.x.load(0, 1, 0), 1);
        d.lies("0:0x1;5:5x1");
        d.is("draw", d.x.draw(5, 1), 0);
        d.lies("0:0x1");
        d.is("draw", d.x.draw(0, 1), 0);
        d.lies("");
    }

    static void writtenTons() {
        Due d = Due.landed("written, tons", "b3c99");
        for (int tons = 1; tons < 100; tons++) {
            d.is("load", d.x.load(2, 1, 3), tons);
            d.lies("3:2x" + tons);
        }
    }

    /** Promise 41: each what, another what. */
    static void countEdges() {
        Due d = EdgeActsTest.six("count", "g0w999k99;b0c99;b5c99");
        for (int bad : new int[] {9, -1, MIN, MAX}) {
            d.idle("another what", -1, () -> d.x.count(bad));
        }
        d.is("LAYERS", d.x.count(2), 6);
        d.is("ROW", d.x.count(7), 6);
        d.is("empty", d.x.count(4), 62);
        d.is("fumes", d.x.fumes(0, 1), 1);
        d.is("fumes", d.x.fumes(5, 2), 2);
        d.is("CLOSED", d.x.count(3), 33);
        d.is("days", d.x.days(1), 1);
        d.is("CLOSED", d.x.count(3), 32);
        d.is("days", d.x.days(1), 2);
        d.is("CLOSED", d.x.count(3), 0);
        for (int i = 1; i <= 50; i++) {
            d.is("load", d.x.load(0, 99, 5), 99);
            d.is("draw", d.x.draw(5, 99), 98901);
            d.is("drawn", d.x.count(6), 98901 * i);
        }
        d.is("what is refused is not drawn", d.x.draw(5, 1), -3);
        d.is("drawn", d.x.count(6), 98901 * 50);
        for (int b = 0; b < 6; b++) {
            d.is("fumes", d.x.fumes(b, 1), 3);
        }
        d.is("all CLOSED", d.x.count(3), 63);
        d.is("draw", d.x.draw(0, 1), -2);
        d.is("signs", d.x.sign(0), 4);
        d.is("signs", d.x.count(8), 4);
        d.is("signs", d.x.end(1), true);
        d.is("signs", d.x.count(8), 1);
    }

    /** Promise 42: NoSuchElementException: none such. */
    static void rowEdges() {
        Due d = Due.landed("row", Due.YARD);
        for (int bad : new int[] {0, 1, -1, MIN, MAX}) {
            d.noRow(bad);
        }
        d.is("old", d.x.old(), 0);
        d.is("seven", d.x.count(7), 7);
        for (int bad : new int[] {7, 8, -1, MIN, MAX}) {
            d.noRow(bad);
        }
        d.is("room", d.x.room(0), 50);
        d.row(0);
        d.noRow(6);
        d.is("no numbers are a ROW, too", d.x.turn(0), 0);
        d.row();
        d.is("room", d.x.room(0), 50);
        d.is("no numbers are a ROW, too", d.x.serves(), 0);
        d.row();
        d.is("room", d.x.room(0), 50);
        d.is("no numbers are a ROW, too", d.x.picks(), 0);
        d.row();
        d.is("room", d.x.room(0), 50);
        d.is("no numbers are a ROW, too", d.x.empties(0), 0);
        d.row();
        d.is("lays", d.x.lays(), 0);
        d.row(0);
    }

    /** Terms 2: the ROW stays with calls that do not tell of it. */
    static void rowStays() {
        Due d = Due.landed("row stays", Due.YARD);
        d.is("room", d.x.room(0), 50);
        d.idle("grade", 100, () -> d.x.grade(0, 0));
        d.idle("pair", 5, () -> d.x.pair(0, 1));
        d.idle("bin", 50, () -> d.x.bin(0, 0));
        d.is("load", d.x.load(1, 5, 0), 5);
        d.idle("layer", 5, () -> d.x.layer(0, 0, 1));
        d.is("fumes", d.x.fumes(0, 1), 1);
        d.is("days", d.x.days(1), 1);
        d.is("price", d.x.price(0, 9), 100);
        d.idle("falls", 0, () -> d.x.falls(0, 999));
        d.is("undo", d.x.undo(), 3);
        d.is("keeps", d.x.keeps(), 1);
        d.is("back", d.x.back(), 1);
        d.idle("written", '0', () -> d.x.written(0));
        d.idle("count", 1, () -> d.x.count(7));
        d.is("sign", d.x.sign(0), 4);
        d.is("end", d.x.end(0), true);
        d.row(0);
        d.is("land", d.x.land(), 0);
        d.row(0);
    }

    /** Terms 2: an answer below 0 that is a number which is meant tells of its ROW. */
    static void rowWhereMeant() {
        Due d = Due.landed("row where meant", "b0c9;l012");
        d.is("load", d.x.load(0, 1, 0), 1);
        d.is("load", d.x.load(1, 1, 0), 2);
        d.asks("value", -2, () -> d.x.value(0), 0, 2, 0);
        d.asks("all", -2, () -> d.x.all(), -2, 0, 0, 0, 0, 0);
        d.asks("then", -2, () -> d.x.then(1), 0, 0);
        d.is("load", d.x.load(0, 1, 0), 3);
        d.asks("would", -2, () -> d.x.would(1, 1, 0), -4, 4);
        d.asks("best", 0, () -> d.x.best(1, 1), -2);
        d.idle("but here -2 is none", -2, () -> d.x.best(1, 9));
    }
}
