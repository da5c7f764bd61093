/** Promises 2, 3, 4 and how ORDERS are told. */
public final class TextTest {
    public static void main(String[] args) {
        signs();
        ends();
        lands();
        landAgain();
        landFaults();
        orders();
        orderFaults();
        emptied();
        Due.end();
    }

    static void signs() {
        Due d = new Due("sign");
        for (int i = 1; i <= 50; i++) {
            d.is("sign", d.x.sign(0x3a3b3c3d), 4 * i);
        }
        d.is("count(8)", d.x.count(8), 200);
        d.is("201st", d.x.sign(0), -1);
        d.is("count(8)", d.x.count(8), 200);
        d.is("end(197)", d.x.end(197), true);
        d.is("201st", d.x.sign(0), -1);
        d.is("end(196)", d.x.end(196), true);
        d.is("200", d.x.sign(-1), 200);
        // the highest byte comes first, as the first sign
        d = new Due("sign order");
        d.x.sign('q' << 24 | '0' << 16 | ':' << 8 | '7');
        d.is("q first", d.x.serves(), -21);
        d.x.sign('0' << 24 | ':' << 16 | '7' << 8 | 'q');
        d.is("q last", d.x.serves(), -24);
        d.x.sign(0xB07A7131);
        d.is("a high byte", d.x.serves(), -21);
    }

    static void ends() {
        Due d = new Due("end");
        d.is("end(0)", d.x.end(0), true);
        d.is("end(1)", d.x.end(1), false);
        d.is("end(-1)", d.x.end(-1), false);
        d.is("sign", d.x.sign(0), 4);
        d.is("end(5)", d.x.end(5), false);
        d.is("end(-1)", d.x.end(-1), false);
        d.is("min", d.x.end(Integer.MIN_VALUE), false);
        d.is("max", d.x.end(Integer.MAX_VALUE), false);
        d.is("count(8)", d.x.count(8), 4);
        d.is("end(4)", d.x.end(4), true);
        d.is("end(3)", d.x.end(3), true);
        d.is("count(8)", d.x.count(8), 3);
        d.is("end(4)", d.x.end(4), false);
        d.is("sign", d.x.sign(0), 7);
    }

    static void lands() {
        Due d = Due.landed("land", "g5w999k99;g0w0k0;b5c99;b0c0;l5499;x30;l101");
        d.is("worth", d.x.grade(5, 0), 999);
        d.is("keep", d.x.grade(5, 1), 99);
        d.is("worth", d.x.grade(0, 0), 0);
        d.is("keep", d.x.grade(0, 1), 0);
        d.is("keep untold", d.x.grade(1, 1), 99);
        d.is("cap", d.x.bin(5, 0), 99);
        d.is("cap", d.x.bin(0, 0), 0);
        d.is("loss", d.x.pair(4, 5), 99);
        d.is("loss", d.x.pair(5, 4), 99);
        d.is("loss", d.x.pair(0, 1), 1);
        d.is("apart", d.x.pair(0, 3), -2);
        d.is("apart", d.x.pair(3, 0), -2);
        d.is("text", d.x.count(8), 0);
        d = Due.landed("apart", "x02;x12;x03");
        int[][] apart = {{0, 2}, {0, 3}, {1, 2}, {2, 0}, {2, 1}, {3, 0}};
        for (int[] two : apart) {
            d.is("apart", d.x.pair(two[0], two[1]), -2);
        }
        d.is("not apart", d.x.pair(0, 1), 0);
        Due.landed("every line", "g0w1k1;g1w1k1;g2w1k1;g3w1k1;g4w1k1;g5w1k1;b0c1;b1c1;b2c1;b3c1;b4c1;b5c1;"
            + "x01;x02;x03;x04;x05;x12;x13;x14;x15;x23;x24;x25;x34;x35;x45");
    }

    /** What was before is all gone, but only if THE TEXT can be read. */
    static void landAgain() {
        Due d = Due.landed("land again", Due.YARD);
        d.is("load", d.x.load(0, 20, 0), 20);
        d.is("draw", d.x.draw(0, 5), 500);
        d.is("days", d.x.days(7), 7);
        d.is("fumes", d.x.fumes(1, 5), 12);
        d.is("keeps", d.x.keeps(), 7);
        d.text("g0w1k1;");
        d.is("fault", d.x.land(), -28);
        d.is("worth", d.x.grade(0, 0), 100);
        d.is("tons", d.x.count(1), 15);
        d.is("acts", d.x.count(5), 4);
        d.is("drawn", d.x.count(6), 500);
        d.row(5, 0, 0, 0, 0, 0);
        d.text("b3c9;g1w7k8");
        d.is("land", d.x.land(), 2);
        d.is("day", d.x.count(0), 0);
        d.is("tons", d.x.count(1), 0);
        d.is("closed", d.x.count(3), 0);
        d.is("empty", d.x.count(4), 63);
        d.is("acts", d.x.count(5), 0);
        d.is("drawn", d.x.count(6), 0);
        d.row(5, 0, 0, 0, 0, 0);
        d.is("worth", d.x.grade(0, 0), 0);
        d.is("keep", d.x.grade(0, 1), 99);
        d.is("keep", d.x.grade(1, 1), 8);
        d.is("loss", d.x.pair(0, 1), 0);
        d.is("apart", d.x.pair(0, 2), 0);
        d.is("cap", d.x.bin(0, 0), 0);
        d.is("cap", d.x.bin(3, 0), 9);
        d.is("undo", d.x.undo(), -2);
        d.is("back", d.x.back(), -2);
        d.is("price", d.x.price(1, 70), 7);
        d.is("tons", d.x.grade(0, 2), 0);
        d.is("mixed", d.x.mixed(0), 0);
        d.text("b3c9;g1w7k8;l015;x02");
        d.is("told in another text", d.x.land(), 4);
        d.text("b3c9;g1w7k8;x01;l025");
        d.is("told in another text", d.x.land(), 4);
        d.is("apart", d.x.pair(0, 1), -2);
        d.is("loss", d.x.pair(0, 2), 5);
        d.text("");
        d.is("none", d.x.land(), 0);
        d.is("worth", d.x.grade(1, 0), 0);
        d.is("cap", d.x.bin(3, 0), 0);
    }

    static void landFault(String lines, int p) {
        Due d = new Due("land " + lines);
        d.text(lines);
        d.is("land", d.x.land(), -21 - p);
        d.is("text", d.x.count(8), 0);
        d.is("land of nothing", d.x.land(), 0);
    }

    static void landFaults() {
        landFault(";", 0);
        landFault("z", 0);
        landFault("g0w1k1;", 7);
        landFault("g0w1k1;;", 7);
        landFault("g0w1k1,b0c1", 6);
        landFault("g", 1);
        landFault("g6w1k1", 1);
        landFault("g/w1k1", 1);
        landFault("g0k1w1", 2);
        landFault("g0w", 3);
        landFault("g0wk1", 3);
        landFault("g0w05k1", 4);
        landFault("g0w1000k1", 6);
        landFault("g0w999", 6);
        landFault("g0w999k", 7);
        landFault("g0w999k100", 9);
        landFault("g0w999k00", 8);
        landFault("g0w1k1;g1w1k1;g0w1k1", 15);
        landFault("g0w1k1;b0c1;b1c1;b0c1", 18);
        landFault("b6c1", 1);
        landFault("b", 1);
        landFault("b0w1", 2);
        landFault("b0c", 3);
        landFault("b0c100", 5);
        landFault("b0c01", 4);
        landFault("b0c1 ", 4);
        landFault("l0", 2);
        landFault("l61", 1);
        landFault("l06", 2);
        landFault("l00", 2);
        landFault("l01", 3);
        landFault("l010", 3);
        landFault("l0105", 3);
        landFault("l01100", 5);
        landFault("l011;l015", 7);
        landFault("l011;l105", 7);
        landFault("l011;x10", 7);
        landFault("x01;l015", 6);
        landFault("x01;x01", 6);
        landFault("x01;x02;x10", 10);
        landFault("x01;x02;x01", 10);
        landFault("x01;x21;x10", 10);
        landFault("x01;l025;x03;x20", 15);
        landFault("x", 1);
        landFault("x0", 2);
        landFault("x44", 2);
        landFault("x455", 3);
        landFault("b0c5\u00e9", 4);
    }

    static void orders() {
        Due d = Due.landed("orders", "g0w1k1;b0c99;b1c99");
        d.is("load", d.x.load(0, 99, 0), 99);
        d.is("load", d.x.load(0, 5, 1), 5);
        d.text("0:99,0:5");
        d.is("serves", d.x.serves(), 2);
        d.row(0, 1);
        d.text("0:1,0:1,0:1,0:1,0:1,0:1");
        d.is("six", d.x.serves(), 6);
        d.text("0:10");
        d.is("serves", d.x.serves(), 1);
    }

    static void orderFault(String told, int p) {
        Due d = new Due("orders " + told);
        d.text(told);
        d.is("sells", d.x.sells(), -21 - p);
        d.is("text", d.x.count(8), 0);
        d.is("acts", d.x.count(5), 0);
        d.text(told);
        d.is("lays", d.x.lays(), -21 - p);
        d.text(told);
        d.is("few", d.x.few(), -21 - p);
        d.text(told);
        d.is("serves", d.x.serves(), -21 - p);
        d.text(told);
        d.is("picks", d.x.picks(), -21 - p);
        d.row();
    }

    static void orderFaults() {
        orderFault(",", 0);
        orderFault("6:1", 0);
        orderFault("0", 1);
        orderFault("0;1", 1);
        orderFault("0:", 2);
        orderFault("0:,", 2);
        orderFault("0:0", 2);
        orderFault("0:05", 2);
        orderFault("0:100", 4);
        orderFault("0:1,", 4);
        orderFault("0:1;", 3);
        orderFault("0:1,,", 4);
        orderFault("00:1", 1);
        orderFault("0:1,5:99,6:1", 9);
        orderFault("0:1,0:1,0:1,0:1,0:1,0:1,", 23);
        orderFault("0:1,0:1,0:1,0:1,0:1,0:1,0:1", 23);
    }

    /** Each call that can read THE TEXT empties it, whatever it answers. */
    static void emptied() {
        Due d = Due.landed("emptied", "g0w1k1;b0c5");
        for (int call = 0; call < 5; call++) {
            d.text("0:99");
            d.is("text", d.x.count(8), 4);
            switch (call) {
                case 0 -> d.is("sells", d.x.sells(), 0);
                case 1 -> d.is("lays", d.x.lays(), -2);
                case 2 -> d.is("few", d.x.few(), -2);
                case 3 -> d.is("serves", d.x.serves(), 0);
                default -> d.is("picks", d.x.picks(), 0);
            }
            d.is("text", d.x.count(8), 0);
        }
    }
}
