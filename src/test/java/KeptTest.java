/** Promises 37 to 42. */
public final class KeptTest {
    public static void main(String[] args) {
        undo();
        undoEach();
        notUndone();
        keeps();
        written();
        counts();
        row();
        Due.end();
    }

    static void undo() {
        Due d = Due.landed("undo", Due.YARD);
        d.is("nothing", d.x.undo(), -2);
        for (int i = 1; i <= 10; i++) {
            d.is("load", d.x.load(0, 1, 0), i);
            d.is("acts", d.x.count(5), Math.min(i, 8));
        }
        for (int i = 7; i >= 0; i--) {
            d.is("undo", d.x.undo(), i);
        }
        d.is("tons", d.x.bin(0, 1), 2);
        d.is("nothing", d.x.undo(), -2);
        d.is("load", d.x.load(1, 1, 0), 3);
        d.is("undo", d.x.undo(), 0);
        d.lies("0:0x2");
    }

    /** Each kind of act comes back as it was. */
    static void undoEach() {
        Due d = Due.landed("undo each", Due.YARD);
        d.is("load", d.x.load(0, 4, 0), 4);
        d.is("load", d.x.load(1, 4, 0), 8);
        d.is("days", d.x.days(2), 2);
        d.is("keeps", d.x.keeps(), 2);
        d.is("load", d.x.load(0, 4, 1), 4);
        String lay = "0:0x4,1x4;1:0x4";
        d.is("draw", d.x.draw(0, 5), 450);
        d.is("undo", d.x.undo(), 4);
        d.is("drawn", d.x.count(6), 0);
        d.lies(lay);
        d.is("move", d.x.move(0, 1, 5), 9);
        d.is("undo", d.x.undo(), 4);
        d.lies(lay);
        d.is("turn", d.x.turn(0), 2);
        d.is("undo", d.x.undo(), 4);
        d.lies(lay);
        d.is("fumes", d.x.fumes(0, 5), 7);
        d.is("undo", d.x.undo(), 4);
        d.is("closed", d.x.count(3), 0);
        d.is("since", d.x.layer(0, 0, 2), 0);
        d.is("days", d.x.days(9), 11);
        d.is("undo", d.x.undo(), 4);
        d.is("day", d.x.count(0), 2);
        d.is("price", d.x.price(0, 1), 100);
        d.is("undo", d.x.undo(), 4);
        d.is("worth", d.x.grade(0, 0), 100);
        d.is("tons", d.x.grade(0, 2), 8);
        d.is("mixed", d.x.mixed(0), 20);
        d.text("0:4,1:2");
        d.is("sells", d.x.sells(), 2);
        d.is("undo", d.x.undo(), 4);
        d.is("drawn", d.x.count(6), 0);
        d.lies(lay);
        d.is("back", d.x.back(), 2);
        d.lies("0:0x4,1x4");
        d.is("undo", d.x.undo(), 4);
        d.lies(lay);
        d.row(400 + 180, 400 + 360 - 20 + 400, 580);
    }

    /** Refused calls and calls that ask are no acts; the ROW does not come back. */
    static void notUndone() {
        Due d = Due.landed("no acts", Due.YARD);
        d.is("load", d.x.load(0, 4, 0), 4);
        d.is("refused", d.x.load(0, 99, 0), -4);
        d.is("refused", d.x.draw(0, 5), -3);
        d.is("refused", d.x.move(0, 1, 5), -3);
        d.is("refused", d.x.turn(6), -1);
        d.is("refused", d.x.fumes(0, 0), -1);
        d.is("refused", d.x.days(0), -1);
        d.is("refused", d.x.price(0, 1000), -1);
        d.is("refused", d.x.back(), -2);
        d.text("9");
        d.is("refused", d.x.sells(), -21);
        d.is("keeps", d.x.keeps(), 0);
        d.is("asks", d.x.empties(0), 0);
        d.is("asks", d.x.all(), 400);
        d.is("acts", d.x.count(5), 1);
        d.is("undo", d.x.undo(), 0);
        d.row(400, 0, 0, 0, 0, 0);
        d.lies("");
    }

    static void keeps() {
        Due d = Due.landed("keeps", Due.YARD);
        d.is("nothing", d.x.back(), -2);
        d.is("no act", d.x.count(5), 0);
        d.is("days", d.x.days(5), 5);
        d.is("load", d.x.load(0, 4, 0), 4);
        d.is("draw", d.x.draw(0, 1), 100);
        d.is("fumes", d.x.fumes(1, 3), 8);
        d.is("price", d.x.price(2, 7), 50);
        d.is("keeps", d.x.keeps(), 5);
        d.is("no act", d.x.count(5), 5);
        d.is("days", d.x.days(9), 14);
        d.is("price", d.x.price(2, 8), 7);
        d.is("load", d.x.load(1, 4, 0), 7);
        d.is("draw", d.x.draw(0, 6), 540);
        d.is("back", d.x.back(), 5);
        d.is("an act", d.x.count(5), 8);
        d.is("day", d.x.count(0), 5);
        d.is("worth", d.x.grade(2, 0), 7);
        d.is("drawn", d.x.count(6), 100);
        d.is("closed", d.x.bin(1, 3), 3);
        d.lies("0:0x3");
        d.is("since", d.x.layer(0, 0, 2), 5);
        d.is("undo", d.x.undo(), 7);
        d.is("day", d.x.count(0), 14);
        d.is("drawn", d.x.count(6), 640);
        d.lies("0:1x1");
        d.is("kept still", d.x.back(), 5);
        d.is("again", d.x.back(), 5);
        d.is("days", d.x.days(1), 6);
        d.is("in place of what was", d.x.keeps(), 6);
        d.is("days", d.x.days(1), 7);
        d.is("back", d.x.back(), 6);
        d.row(3, 3, 0, 0, 0, 0);
    }

    static void written() {
        Due d = Due.landed("written", "b0c99;b1c99;b2c99;b3c99;b4c99;b5c99");
        d.is("nothing", d.x.written(-1), 0);
        d.is("no sign", d.x.written(0), -1);
        d.is("load", d.x.load(1, 20, 0), 20);
        d.is("load", d.x.load(0, 5, 0), 25);
        d.is("load", d.x.load(2, 7, 3), 7);
        d.lies("0:1x20,0x5;3:2x7");
        d.is("max", d.x.written(Integer.MAX_VALUE), -1);
        d.is("min", d.x.written(Integer.MIN_VALUE), -1);
        d = Due.landed("written, full", "b0c99;b1c99;b2c99;b3c99;b4c99;b5c99");
        StringBuilder all = new StringBuilder();
        for (int bin = 0; bin < 6; bin++) {
            all.append(bin == 0 ? "" : ";").append(bin).append(":");
            for (int i = 0; i < 6; i++) {
                d.is("load", d.x.load((i + bin) % 6, 10 + i, bin) > 0, true);
                all.append(i == 0 ? "" : ",").append((i + bin) % 6).append("x").append(10 + i);
            }
        }
        d.lies(all.toString());
        d.row();
    }

    static void counts() {
        Due d = Due.landed("count", Due.YARD);
        d.is("load", d.x.load(0, 4, 0), 4);
        d.is("load", d.x.load(1, 4, 0), 8);
        d.is("load", d.x.load(2, 4, 1), 4);
        d.is("draw", d.x.draw(0, 1), 100);
        d.is("days", d.x.days(3), 3);
        d.is("fumes", d.x.fumes(1, 2), 5);
        d.is("fumes", d.x.fumes(5, 2), 5);
        d.x.sign(0);
        int[] counts = {3, 11, 3, 34, 60, 7, 100, 6, 4};
        for (int what = 0; what < counts.length; what++) {
            d.is("count(" + what + ")", d.x.count(what), counts[what]);
        }
        d.is("fumes", d.x.fumes(0, 9), 12);
        d.is("count(3)", d.x.count(3), 35);
        d.is("none", d.x.count(9), -1);
        d.is("none", d.x.count(-1), -1);
    }

    static void row() {
        Due d = Due.landed("row", Due.YARD);
        d.noRow(0);
        d.noRow(-1);
        d.noRow(Integer.MAX_VALUE);
        d.noRow(Integer.MIN_VALUE);
        d.is("old", d.x.old(), 0);
        d.row(0, 0, 0, 0, 0, 0, 0);
        d.noRow(8);
        d.is("the row before is gone", d.x.room(0), 50);
        d.row(0);
        d.is("calls that do not tell of it", d.x.load(0, 1, 1), 1);
        d.is("days", d.x.days(1), 1);
        d.is("undo", d.x.undo(), 1);
        d.row(0);
        d.is("fumes", d.x.fumes(0, 2), 2);
        d.is("price", d.x.price(0, 7), 100);
        d.is("keeps", d.x.keeps(), 0);
        d.is("back", d.x.back(), 0);
        d.text("b0c9;z");
        d.is("land, refused", d.x.land(), -26);
        d.row(0);
        d.text("b0c9");
        d.is("land", d.x.land(), 1);
        d.row(0);
        d.is("land of nothing", d.x.land(), 0);
        d.row(0);
        d.is("value tells of it", d.x.value(0), 0);
        d.row(0, 0, 0);
    }
}
