/** Promises 33 to 36. */
public final class DaysTest {
    public static void main(String[] args) {
        then();
        falls();
        old();
        cures();
        whatIsGone();
        Due.end();
    }

    static final String LINES = "g0w10k5;g1w20k2;b0c50;b1c50;b2c50;l013";

    static void then() {
        Due d = Due.landed("then", LINES);
        d.is("load", d.x.load(0, 2, 0), 2);
        d.is("load", d.x.load(1, 1, 0), 3);
        d.is("load", d.x.load(1, 1, 1), 1);
        d.is("now", d.x.then(0), 57);
        d.row(0, 0);
        d.is("just kept", d.x.then(2), 57);
        d.row(0, 0);
        d.is("one too old", d.x.then(3), 55);
        d.row(2, 2);
        d.is("both too old", d.x.then(7), 20 - 4 + 40 - 10 - 3);
        d.row(14, 3);
        d.is("nothing is left", d.x.then(999), -3);
        d.row(60, 3);
        d.is("days", d.x.days(7), 7);
        d.is("now", d.x.then(0), 43);
        d.row(0, 3);
        d.is("fumes", d.x.fumes(1, 5), 12);
        d.is("closed, not too old till later", d.x.then(8), 2 * 0 + 7 - 3 + 19);
        d.row(16 + 15 - 3 + 20 - 23, 3);
        d.is("none", d.x.then(-1), -1);
        d.is("none", d.x.then(1000), -1);
        d.row(25, 3);
        d = Due.landed("then, unworthy", "g0w0k0;b0c9");
        d.is("load", d.x.load(0, 2, 0), 2);
        d.is("nothing is below nothing", d.x.then(9), 0);
        d.row(0, 0);
    }

    static void falls() {
        Due d = Due.landed("falls", LINES);
        d.is("load", d.x.load(0, 2, 0), 2);
        d.is("load", d.x.load(1, 1, 0), 3);
        d.is("already", d.x.falls(0, 38), 0);
        d.is("at 3", d.x.falls(0, 37), 3);
        d.is("at 4", d.x.falls(0, 36), 4);
        d.is("at the end", d.x.falls(0, -2), 22);
        d.is("never", d.x.falls(0, -3), -2);
        d.is("never", d.x.falls(0, Integer.MIN_VALUE), -2);
        d.is("now", d.x.falls(0, Integer.MAX_VALUE), 0);
        d.is("empty", d.x.falls(1, 0), -2);
        d.is("empty", d.x.falls(1, 1), 0);
        d.is("none", d.x.falls(6, 1), -1);
        d.is("none", d.x.falls(-1, 1), -1);
        d.row();
        d = Due.landed("falls late", "g0w999k0;g1w999k1;b0c9;b1c9");
        d.is("load", d.x.load(0, 1, 0), 1);
        d.is("load", d.x.load(1, 1, 1), 1);
        d.is("on the last day", d.x.falls(0, 1), 999);
        d.is("a day before", d.x.falls(0, 2), 998);
        d.is("a day too late", d.x.falls(1, 1), -2);
        d.is("on the last day", d.x.falls(1, 2), 999);
    }

    static void old() {
        Due d = Due.landed("old", LINES);
        d.is("load", d.x.load(0, 2, 0), 2);
        d.is("load", d.x.load(1, 3, 0), 5);
        d.is("load", d.x.load(1, 4, 2), 4);
        d.is("load", d.x.load(0, 1, 1), 1);
        d.is("nothing", d.x.old(), 0);
        d.row(0, 0, 0, 0, 0, 0, 0);
        d.is("days", d.x.days(3), 3);
        d.is("some", d.x.old(), 7);
        d.row(3, 0, 4, 0, 0, 0, 5);
        d.is("days", d.x.days(3), 6);
        d.is("all", d.x.old(), 10);
        d.row(5, 1, 4, 0, 0, 0, 7);
        d.is("price", d.x.price(1, 0), 20);
        d.is("not below nothing", d.x.old(), 3);
        d.row(2, 1, 0, 0, 0, 0, 3);
    }

    /** A LAYER that was drawn counts nowhere. */
    static void whatIsGone() {
        Due d = Due.landed("what is gone", "g0w10k5;g1w20k2;b0c50;b5c50");
        for (int b = 0; b < 6; b += 5) {
            d.is("load", d.x.load(0, 1, b), 1);
            d.is("load", d.x.load(1, 1, b), 2);
            d.is("load", d.x.load(0, 1, b), 3);
            d.is("load", d.x.load(1, 1, b), 4);
            d.is("load", d.x.load(0, 1, b), 5);
            d.is("load", d.x.load(1, 5, b), 10);
            d.is("draw", d.x.draw(b, 5), 50);
        }
        d.is("dear", d.x.dear(), 1);
        d.row(0, 200, 0, 0, 0, 0);
        d.is("value", d.x.value(0), 100);
        d.is("reaches", d.x.reaches(1, 6), -2);
        d.is("reaches", d.x.reaches(0, 1), -2);
        d.is("then", d.x.then(3), 190);
        d.is("bottom", d.x.bottom(0), 1);
        d.row(5, 1);
        d.text("1:6");
        d.is("serves", d.x.serves(), 0);
        d.is("cures", d.x.cures(1, 3), 0);
        d.row(5);
        d.is("empties", d.x.empties(0), 0);
        d.row(5);
        d.is("days", d.x.days(3), 3);
        d.is("old", d.x.old(), 10);
        d.row(5, 0, 0, 0, 0, 5, 33);
        d.is("then", d.x.then(99), 0);
        d.row(190, 2);
    }

    static void cures() {
        Due d = Due.landed("cures", LINES);
        d.is("nothing lies", d.x.cures(1, 9), -2);
        d.is("load", d.x.load(0, 2, 0), 2);
        d.is("load", d.x.load(1, 3, 1), 3);
        d.is("nothing is too old", d.x.cures(1, 2), -2);
        d.row();
        d.is("the better keeper gains less", d.x.cures(1, 9), 1);
        d.row(3);
        d.is("for longer", d.x.cures(9, 9), 1);
        d.row(3 * 7);
        d.is("when nothing is left", d.x.cures(20, 999), -2);
        d.is("price", d.x.price(1, 1), 20);
        d.is("the other", d.x.cures(3, 8), 0);
        d.row(6);
        d.is("load", d.x.load(0, 2, 2), 2);
        d.is("equal", d.x.cures(3, 8), 0);
        d.is("fumes", d.x.fumes(0, 1), 1);
        d.is("closed", d.x.cures(3, 8), 2);
        d.row(6);
        d.is("none", d.x.cures(0, 1), -1);
        d.is("none", d.x.cures(21, 1), -1);
        d.is("none", d.x.cures(1, -1), -1);
        d.is("none", d.x.cures(1, 1000), -1);
        d.is("days", d.x.days(30), 30);
        d.is("for 20 days", d.x.cures(20, 0), 0);
        d.row(20);
        d = Due.landed("cures, by 1", "g0w1k0;b5c9");
        d.is("load", d.x.load(0, 1, 5), 1);
        d.is("cures", d.x.cures(1, 1), 5);
        d.row(1);
        d.is("too short", d.x.cures(1, 2), -2);
    }
}
