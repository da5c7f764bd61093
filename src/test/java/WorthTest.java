/** Promises 17 to 22. */
public final class WorthTest {
    public static void main(String[] args) {
        values();
        allValues();
        mixed();
        would();
        worst();
        dear();
        Due.end();
    }

    static final String LOSSES = "g0w10k1;g1w20k99;g2w1k99;b0c99;b1c99;b2c99;l019;l0299;l121";

    static void values() {
        Due d = Due.landed("value", LOSSES);
        d.is("load", d.x.load(0, 4, 0), 4);
        d.is("load", d.x.load(1, 2, 0), 6);
        d.is("load", d.x.load(2, 3, 0), 9);
        d.is("load", d.x.load(0, 1, 0), 10);
        // 9 * 2 + 99 * 3 + 1 * 2
        d.is("value", d.x.value(0), 50 + 40 + 3 - 317);
        d.row(93, 317, 93);
        d.is("days", d.x.days(5), 5);
        d.is("value", d.x.value(0), 30 + 40 + 3 - 317);
        d.row(73, 317, 93);
        d.is("empty", d.x.value(1), 0);
        d.row(0, 0, 0);
        d.is("none", d.x.value(6), -1);
        d.is("none", d.x.value(-1), -1);
        d.row(0, 0, 0);
    }

    static void allValues() {
        Due d = Due.landed("all", LOSSES);
        d.is("load", d.x.load(0, 4, 0), 4);
        d.is("load", d.x.load(2, 4, 0), 8);
        d.is("load", d.x.load(1, 3, 2), 3);
        d.is("all", d.x.all(), 44 - 396 + 60);
        d.row(44 - 396, 0, 60, 0, 0, 0);
    }

    static void mixed() {
        Due d = Due.landed("mixed", LOSSES);
        d.is("load", d.x.load(0, 4, 0), 4);
        d.is("load", d.x.load(2, 3, 0), 7);
        d.is("load", d.x.load(1, 3, 2), 3);
        d.is("load", d.x.load(2, 5, 2), 8);
        d.is("load", d.x.load(0, 1, 2), 9);
        d.is("mixed", d.x.mixed(2), 297 + 3 + 99);
        d.row(396, 3, 0, 0, 0, 0);
        d.is("mixed", d.x.mixed(0), 297 + 9 + 99);
        d.row(0, 9, 396, 0, 0, 0);
        d.is("nothing", d.x.mixed(5), 0);
        d.row(0, 0, 0, 0, 0, 0);
        d.is("none", d.x.mixed(6), -1);
        d.is("none", d.x.mixed(-1), -1);
    }

    static void would() {
        Due d = Due.landed("would", "g0w10k1;g1w20k99;g2w1k99;b0c12;b1c9;l019;l0299;l121;x03");
        d.is("load", d.x.load(0, 4, 0), 4);
        d.is("would", d.x.would(1, 3, 0), 60 - 27);
        d.row(73, 27);
        d.is("more than there is", d.x.would(1, 8, 0), 160 - 36);
        d.row(164, 36);
        d.is("less", d.x.would(2, 3, 0), 3 - 297);
        d.row(43 - 297, 297);
        d.is("the same", d.x.would(0, 3, 0), 30);
        d.row(70, 0);
        d.is("room", d.x.would(0, 9, 0), -1000004);
        d.is("room, apart", d.x.would(3, 9, 0), -1000004);
        d.is("apart", d.x.would(3, 1, 0), -1000005);
        d.is("none", d.x.would(6, 1, 0), -1);
        d.is("none", d.x.would(0, 0, 0), -1);
        d.is("none", d.x.would(0, 100, 0), -1);
        d.is("none", d.x.would(0, 1, 6), -1);
        d.row(70, 0);
        for (int i = 0; i < 6; i++) {
            d.is("load", d.x.load(1 + i % 2, 1, 1), i + 1);
        }
        d.is("layers", d.x.would(1, 1, 1), -1000006);
        d.is("on top", d.x.would(2, 1, 1), 1);
        d.is("fumes", d.x.fumes(1, 1), 1);
        d.is("closed", d.x.would(2, 1, 1), -1000002);
        d.is("days", d.x.days(50), 50);
        // what lies there is too old, what comes is not
        d.is("would", d.x.would(0, 1, 0), 10);
        d.row(10, 0);
        d.is("load", d.x.load(2, 1, 0), 5);
        d.is("minus one is meant, too", d.x.price(2, 98), 1);
        d.is("would", d.x.would(2, 1, 0), -1);
        d.row(98 - 99 - 1, 198);
    }

    static void worst() {
        Due d = Due.landed("worst", LOSSES);
        d.is("nothing", d.x.worst(), -2);
        d.is("load", d.x.load(0, 1, 1), 1);
        d.is("nothing", d.x.worst(), -2);
        d.row();
        d.is("load", d.x.load(1, 1, 1), 2);
        d.is("worst", d.x.worst(), 1);
        d.row(9, 1);
        d.is("load", d.x.load(1, 9, 0), 9);
        d.is("load", d.x.load(2, 9, 0), 18);
        d.is("as much, an earlier bin", d.x.worst(), 12);
        d.row(9, 0);
        d.is("load", d.x.load(2, 1, 1), 3);
        d.is("most", d.x.worst(), 2);
        d.row(99, 1);
        d = Due.landed("worst, alike", "b0c9;l455;l135;l125");
        for (int g = 5; g > 0; g--) {
            d.is("load", d.x.load(g, 1, 0), 6 - g);
        }
        d.is("the lesser grades", d.x.worst(), 12);
        d.row(5, 0);
    }

    static void dear() {
        Due d = Due.landed("dear", LOSSES);
        d.is("nothing", d.x.dear(), -2);
        d.is("load", d.x.load(5, 9, 1), 9);
        d.is("nothing worth", d.x.dear(), -2);
        d.row();
        d.is("load", d.x.load(1, 1, 0), 1);
        d.is("load", d.x.load(0, 1, 0), 2);
        d.is("dear", d.x.dear(), 1);
        d.row(10, 20, 0, 0, 0, 0);
        d.is("load", d.x.load(0, 1, 2), 1);
        d.is("equal", d.x.dear(), 0);
        d.row(20, 20, 0, 0, 0, 0);
        d.is("days", d.x.days(2), 2);
        d.is("older", d.x.dear(), 1);
        d.row(18, 20, 0, 0, 0, 0);
        d = Due.landed("dear, worth 1", "g3w1k9;b0c9");
        d.is("load", d.x.load(3, 1, 0), 1);
        d.is("dear", d.x.dear(), 3);
        d.row(0, 0, 0, 1, 0, 0);
    }
}
