/** Promises 9 to 16. */
public final class ActsTest {
    public static void main(String[] args) {
        loads();
        loadWhy();
        draws();
        moves();
        moveWhy();
        turns();
        fumes();
        days();
        prices();
        sells();
        Due.end();
    }

    static void loads() {
        Due d = Due.landed("load", Due.YARD);
        d.is("load", d.x.load(0, 20, 0), 20);
        d.is("same on top", d.x.load(0, 5, 0), 25);
        d.is("one layer", d.x.bin(0, 2), 1);
        d.is("days", d.x.days(1), 1);
        d.is("another day", d.x.load(0, 5, 0), 30);
        d.is("two layers", d.x.bin(0, 2), 2);
        d.is("since", d.x.layer(0, 1, 2), 1);
        d.is("full", d.x.load(0, 20, 0), 50);
        d.is("nothing more", d.x.load(0, 1, 0), -4);
        d.lies("0:0x25,0x25");
        int[][] none = {{-1, 1, 0}, {6, 1, 0}, {0, 0, 0}, {0, 100, 0}, {0, -1, 0}, {0, 1, -1}, {0, 1, 6},
            {Integer.MIN_VALUE, Integer.MAX_VALUE, 7}};
        for (int[] one : none) {
            d.is("none", d.x.load(one[0], one[1], one[2]), -1);
        }
        d.is("acts", d.x.count(5), 5);
        d.is("fumes", d.x.fumes(1, 1), 2);
        d.is("none comes first", d.x.load(0, 1, 6), -1);
        d.row();
    }

    static void loadWhy() {
        Due d = Due.landed("why", "b0c7;b1c2;x01");
        for (int i = 0; i < 6; i++) {
            d.is("load", d.x.load(i % 2 * 2, 1, 0), i + 1);
        }
        d.is("room, apart, layers", d.x.load(1, 2, 0), -4);
        d.is("apart, layers", d.x.load(1, 1, 0), -5);
        d.is("layers", d.x.load(3, 1, 0), -6);
        d.is("layers, not alike", d.x.load(0, 1, 0), -6);
        d.is("on top", d.x.load(2, 1, 0), 7);
        d.is("fumes", d.x.fumes(0, 1), 1);
        d.is("closed, room, apart", d.x.load(1, 1, 0), -2);
        d.is("closed", d.x.load(2, 1, 0), -2);
        d.is("fumes", d.x.fumes(1, 1), 1);
        d.is("closed, empty", d.x.load(2, 1, 1), -2);
    }

    static void draws() {
        Due d = Due.landed("draw", Due.YARD);
        d.is("load", d.x.load(1, 10, 0), 10);
        d.is("days", d.x.days(25), 25);
        d.is("load", d.x.load(0, 10, 0), 20);
        d.is("load", d.x.load(1, 10, 0), 30);
        d.is("a part", d.x.draw(0, 4), 4 * 85);
        d.row(0, 4, 0, 0, 0, 0);
        d.is("over the edge", d.x.draw(0, 7), 7 * 85);
        d.row(1, 6, 0, 0, 0, 0);
        d.is("counted", d.x.count(6), 11 * 85);
        d.lies("0:0x9,1x10");
        d.is("just one layer", d.x.draw(0, 9), 900);
        d.row(9, 0, 0, 0, 0, 0);
        d.is("too much", d.x.draw(0, 11), -3);
        d.row(9, 0, 0, 0, 0, 0);
        d.is("all", d.x.draw(0, 10), 900);
        d.is("empty", d.x.count(4), 63);
        d.is("nothing", d.x.draw(0, 1), -3);
        d.is("none", d.x.draw(6, 1), -1);
        d.is("none", d.x.draw(-1, 1), -1);
        d.is("none", d.x.draw(0, 0), -1);
        d.is("none", d.x.draw(0, 100), -1);
        d.is("fumes", d.x.fumes(0, 1), 26);
        d.is("closed", d.x.draw(0, 1), -2);
        d.is("none comes first", d.x.draw(0, 0), -1);
        d.is("counted", d.x.count(6), 11 * 85 + 1800);
    }

    static void moves() {
        Due d = Due.landed("move", Due.YARD);
        d.is("load", d.x.load(0, 6, 0), 6);
        d.is("load", d.x.load(1, 8, 0), 14);
        d.is("load", d.x.load(0, 2, 1), 2);
        d.is("days", d.x.days(3), 3);
        // 0: 6 of 0, 8 of 1 (loss 5 * 6); 1: 2 of 0
        d.is("move", d.x.move(0, 1, 9), 11);
        d.row(1490, 1505);
        d.lies("0:1x5;1:0x8,1x3");
        d.is("since", d.x.layer(1, 1, 2), 0);
        d.is("load", d.x.load(1, 1, 1), 12);
        d.lies("0:1x5;1:0x8,1x3,1x1");
        d.is("the lowest alone", d.x.move(1, 2, 8), 8);
        d.lies("0:1x5;1:1x3,1x1;2:0x8");
        d.row(1160 - 20, 1160);
        d.is("load", d.x.load(1, 1, 0), 6);
        d.is("not alike", d.x.move(1, 0, 4), 10);
        d.lies("0:1x5,1x1,1x3,1x1;2:0x8");
        d.is("since", d.x.layer(0, 2, 2), 0);
        d.is("nothing lies there", d.x.move(1, 0, 1), -3);
    }

    static void moveWhy() {
        Due d = Due.landed("move why", "b0c20;b1c20;b2c20;b3c3;x01");
        for (int i = 0; i < 6; i++) {
            d.is("load", d.x.load(i % 2 * 2, 1, 0), i + 1);
        }
        d.is("load", d.x.load(1, 1, 1), 1);
        d.is("load", d.x.load(3, 1, 2), 1);
        int[][] none = {{0, 0, 1}, {-1, 0, 1}, {6, 0, 1}, {0, -1, 1}, {0, 6, 1}, {0, 1, 0}, {0, 1, 100}};
        for (int[] one : none) {
            d.is("none", d.x.move(one[0], one[1], one[2]), -1);
        }
        d.is("not so much, no room", d.x.move(0, 3, 7), -3);
        d.is("no room", d.x.move(0, 3, 4), -4);
        d.is("apart, by the first", d.x.move(0, 1, 1), -5);
        d.is("apart, by a later one", d.x.move(1, 0, 1), -5);
        d.is("layers", d.x.move(0, 2, 6), -6);
        d.is("five layers more", d.x.move(0, 2, 5), 6);
        d.lies("0:2x1;1:1x1;2:3x1,0x1,2x1,0x1,2x1,0x1");
        d.is("six layers", d.x.move(0, 2, 1), -6);
        d.is("undo", d.x.undo(), 7);
        d.is("draw", d.x.draw(0, 1), 0);
        d.lies("0:2x1,0x1,2x1,0x1,2x1;1:1x1;2:3x1");
        d.is("what is no part of it may lie anywhere", d.x.move(0, 1, 1), 2);
        d.is("a later layer is apart", d.x.move(0, 1, 1), -5);
        moveFull();
        d.is("fumes", d.x.fumes(1, 2), 2);
        d.is("closed comes first", d.x.move(0, 1, 99), -2);
        d.is("closed comes first", d.x.move(1, 0, 99), -2);
        d.is("none comes first", d.x.move(1, 1, 1), -1);
    }

    /** What comes to lie on its like is no LAYER more; a BIN may be filled to its CAP. */
    static void moveFull() {
        Due d = Due.landed("move full", "b0c20;b1c8");
        for (int i = 0; i < 6; i++) {
            d.is("load", d.x.load(i % 2, 1, 0), i + 1);
        }
        d.is("load", d.x.load(0, 3, 1), 3);
        d.is("no room", d.x.move(0, 1, 6), -4);
        d.is("undo", d.x.undo(), 6);
        d.is("load", d.x.load(0, 2, 1), 2);
        d.is("six layers, full", d.x.move(0, 1, 6), 8);
        d.lies("1:0x3,1x1,0x1,1x1,0x1,1x1");
        d.is("undo", d.x.undo(), 7);
        d.is("turn", d.x.turn(0), 6);
        d.is("seven layers", d.x.move(0, 1, 6), -6);
        d.is("turn", d.x.turn(0), 6);
        d.is("draw", d.x.draw(1, 1), 0);
        d.is("load", d.x.load(1, 1, 1), 2);
        d.is("turn", d.x.turn(1), 2);
        d.is("none but the lowest joins", d.x.move(0, 1, 6), -6);
        d.is("six of them", d.x.move(0, 1, 5), 7);
        d.lies("0:1x1;1:1x1,0x2,1x1,0x1,1x1,0x1");
    }

    static void turns() {
        Due d = Due.landed("turn", Due.YARD);
        d.is("empty", d.x.turn(0), 0);
        d.row();
        d.is("an act", d.x.count(5), 1);
        d.is("load", d.x.load(1, 1, 0), 1);
        d.is("load", d.x.load(0, 2, 0), 3);
        d.is("days", d.x.days(2), 2);
        d.is("load", d.x.load(0, 3, 0), 6);
        d.is("turn", d.x.turn(0), 3);
        d.row(0, 0, 1);
        d.lies("0:0x3,0x2,1x1");
        d.is("since", d.x.layer(0, 0, 2), 2);
        d.is("since", d.x.layer(0, 1, 2), 0);
        d.is("tons", d.x.grade(0, 2), 5);
        d.is("value", d.x.value(0), 500 + 90 - 5);
        d.is("turn", d.x.turn(0), 3);
        d.is("turn", d.x.turn(0), 3);
        d.is("load", d.x.load(0, 4, 0), 10);
        d.is("turn", d.x.turn(0), 4);
        d.lies("0:0x4,1x1,0x2,0x3");
        d.is("none", d.x.turn(-1), -1);
        d.is("none", d.x.turn(6), -1);
        d.is("fumes", d.x.fumes(0, 1), 3);
        d.is("closed", d.x.turn(0), -2);
        d.row(0, 1, 0, 0);
    }

    static void fumes() {
        Due d = Due.landed("fumes", Due.YARD);
        d.is("load", d.x.load(1, 1, 0), 1);
        d.is("load", d.x.load(0, 2, 0), 3);
        d.is("days", d.x.days(2), 2);
        d.is("load", d.x.load(0, 3, 0), 6);
        d.is("load", d.x.load(1, 3, 0), 9);
        d.is("none", d.x.fumes(0, 0), -1);
        d.is("none", d.x.fumes(0, 21), -1);
        d.is("none", d.x.fumes(6, 1), -1);
        d.is("none", d.x.fumes(-1, 1), -1);
        d.is("fumes", d.x.fumes(0, 20), 22);
        d.lies("0:1x1,0x5,1x3");
        for (int i = 0; i < 3; i++) {
            d.is("since", d.x.layer(0, i, 2), 22);
        }
        d.is("closed", d.x.fumes(0, 1), -2);
        d.is("none comes first", d.x.fumes(0, 21), -1);
        d.is("days", d.x.days(19), 21);
        d.is("closed", d.x.fumes(0, 1), -2);
        d.is("days", d.x.days(1), 22);
        d.is("open", d.x.load(1, 1, 0), 10);
        d.lies("0:1x1,0x5,1x4");
        d.is("empty", d.x.fumes(1, 1), 23);
        d.is("closed", d.x.count(3), 2);
        d.row();
    }

    static void days() {
        Due d = new Due("days");
        d.is("none", d.x.days(0), -1);
        d.is("none", d.x.days(100), -1);
        d.is("none", d.x.days(-1), -1);
        d.is("none", d.x.days(Integer.MAX_VALUE), -1);
        for (int i = 1; i <= 101; i++) {
            d.is("days", d.x.days(99), 99 * i);
        }
        d.is("none", d.x.days(1), -1);
        d.is("undo", d.x.undo(), 7);
        d.is("98", d.x.days(98), 9998);
        d.is("none", d.x.days(2), -1);
        d.is("the last", d.x.days(1), 9999);
        d.is("fumes", d.x.fumes(0, 20), 10019);
        d.is("closed", d.x.bin(0, 3), 20);
    }

    static void prices() {
        Due d = Due.landed("price", Due.YARD);
        d.is("load", d.x.load(0, 2, 0), 2);
        d.is("price", d.x.price(0, 999), 100);
        d.is("worth", d.x.grade(0, 0), 999);
        d.is("value", d.x.value(0), 1998);
        d.is("price", d.x.price(0, 0), 999);
        d.is("the same", d.x.price(0, 0), 0);
        d.is("an act too", d.x.count(5), 4);
        d.is("none", d.x.price(0, 1000), -1);
        d.is("none", d.x.price(0, -1), -1);
        d.is("none", d.x.price(6, 1), -1);
        d.is("none", d.x.price(-1, 1), -1);
        d.is("acts", d.x.count(5), 4);
    }

    static void sells() {
        Due d = Due.landed("sells", Due.YARD);
        d.is("load", d.x.load(1, 5, 1), 5);
        d.is("days", d.x.days(25), 25);
        d.is("load", d.x.load(1, 5, 1), 10);
        d.is("load", d.x.load(0, 5, 1), 15);
        d.is("load", d.x.load(0, 3, 0), 3);
        d.text("1:7,0:3,1:3,0:6");
        // 7 of both layers count as the older ones: 85; the last order can't be drawn
        d.is("sells", d.x.sells(), 3);
        d.row(7 * 85 + 300 + 3 * 90, 425 + 450 + 500 - 25 + 300, 500);
        d.is("drawn", d.x.count(6), 7 * 85 + 300 + 3 * 90);
        d.lies("1:0x5");
        d.is("acts", d.x.count(5), 6);
        d.is("undo", d.x.undo(), 5);
        d.lies("0:0x3;1:1x5,1x5,0x5");
        d.is("drawn", d.x.count(6), 0);
        d.is("none told", d.x.sells(), 0);
        d.row(0, 1650, 1650);
        d.is("an act", d.x.count(5), 6);
        d.text("2:1,0:1");
        d.is("none drawn", d.x.sells(), 0);
        d.is("an act", d.x.count(5), 7);
        d.text("2:1,0:0");
        d.is("fault", d.x.sells(), -27);
        d.is("no act", d.x.count(5), 7);
        d.row(0, 1650, 1650);
    }
}
