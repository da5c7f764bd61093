/** Promises 23 to 27. */
public final class LyingTest {
    public static void main(String[] args) {
        best();
        lays();
        few();
        room();
        takers();
        Due.end();
    }

    static void best() {
        Due d = Due.landed("best", "g0w10k99;g1w7k99;b0c10;b1c10;b2c20;l019;x12");
        d.is("equal", d.x.best(0, 5), 0);
        d.row(50);
        d.is("room", d.x.best(0, 11), 2);
        d.row(110);
        d.is("no room", d.x.best(0, 21), -2);
        d.row(110);
        d.is("load", d.x.load(1, 2, 0), 2);
        d.is("load", d.x.load(1, 1, 1), 1);
        d.is("load", d.x.load(1, 9, 2), 9);
        d.is("least lost", d.x.best(0, 3), 1);
        d.row(21);
        d.is("apart", d.x.best(2, 1), -2);
        d.is("price", d.x.price(0, 1), 10);
        d.is("load", d.x.load(1, 1, 1), 2);
        d.is("below 0", d.x.best(0, 2), 0);
        d.row(2 - 18);
        d.is("fumes", d.x.fumes(0, 1), 1);
        d.is("closed", d.x.best(0, 2), 1);
        d.is("none", d.x.best(6, 2), -1);
        d.is("none", d.x.best(-1, 2), -1);
        d.is("none", d.x.best(0, 0), -1);
        d.is("none", d.x.best(0, 100), -1);
        d.row(-16);
    }

    static void lays() {
        Due d = Due.landed("lays", "g0w10k99;g1w7k99;g2w5k99;b0c10;b1c10;b2c5;l019;l028;x12");
        d.text("0:6,1:5,2:4");
        d.is("lays", d.x.lays(), 3);
        d.row(60 + 35 + 20, 0, 1, 2);
        d.text("1:5,2:5,0:6");
        d.is("the first row", d.x.lays(), 3);
        d.row(60 + 35 + 25, 0, 2, 1);
        d.text("0:9,1:9,2:6");
        d.is("no room", d.x.lays(), -2);
        d.text("1:3,2:3,1:4,2:3,0:7");
        // 0 costs least with one load of 2, which of them is all one
        d.is("lays", d.x.lays(), 5);
        d.row(49 + 30 + 70 - 24, 0, 1, 0, 2, 1);
        d.text("1:3,2:3,1:4,2:2,0:5");
        d.is("lays", d.x.lays(), 5);
        d.row(49 + 25 + 50, 0, 1, 0, 1, 2);
        d.row(124, 0, 1, 0, 1, 2);
        d.text("0:4,1:4,2:5,0:5");
        d.is("some is lost", d.x.lays(), 4);
        d.row(90 + 28 + 25 - 0, 0, 1, 2, 0);
        d.is("nothing lies", d.x.count(1), 0);
        d.is("none", d.x.lays(), 0);
        d.row(0);
        layers();
        apart();
    }

    /** LOADS of one day lie as one LAYER, those of an earlier one don't. */
    static void layers() {
        Due d = Due.landed("lays, layers", "b0c20;b1c3");
        for (int i = 0; i < 5; i++) {
            d.is("load", d.x.load(i, 1, 0), i + 1);
        }
        d.is("days", d.x.days(1), 1);
        d.text("4:1,4:1,5:3");
        d.is("lays", d.x.lays(), 3);
        d.row(0, 0, 0, 1);
        d.text("4:2,5:2,4:2");
        d.is("lays", d.x.lays(), 3);
        d.row(0, 0, 1, 0);
        d.text("4:2,5:2,5:2");
        d.is("a way round", d.x.lays(), 3);
        d.row(0, 1, 0, 0);
        d.text("4:2,5:2,4:2,5:2");
        d.is("no way", d.x.lays(), -2);
        d.row(0, 1, 0, 0);
    }

    static void apart() {
        Due d = Due.landed("lays, apart", "g0w9k99;b0c9;b1c9;x01;x02;l123");
        d.text("0:1,1:1,2:1");
        d.is("lays", d.x.lays(), 3);
        d.row(9 - 3, 0, 1, 1);
        d.is("load", d.x.load(2, 1, 0), 1);
        d.text("0:1,1:1,2:1");
        d.is("lays", d.x.lays(), 3);
        d.row(9 - 3, 1, 0, 0);
        d.is("load", d.x.load(2, 1, 1), 1);
        d.text("0:1");
        d.is("no way", d.x.lays(), -2);
        d.is("fumes", d.x.fumes(0, 1), 1);
        d.text("2:8");
        d.is("the other is closed", d.x.lays(), 1);
        d.row(0, 1);
        d.text("2:9");
        d.is("no way", d.x.lays(), -2);
    }

    static void few() {
        Due d = Due.landed("few", "b0c10;b1c10;b2c20;b3c5;b4c9;x01;x02");
        d.text("3:5,3:5");
        d.is("the least bits", d.x.few(), 1);
        d.row(1);
        d.text("3:15,3:5");
        d.is("one", d.x.few(), 1);
        d.row(4);
        d.text("3:15,3:6");
        d.is("two", d.x.few(), 2);
        d.row(5);
        d.text("0:1,1:1,2:1");
        d.is("apart", d.x.few(), 2);
        d.row(3);
        d.text("0:20,1:10,2:10");
        d.is("three", d.x.few(), 3);
        d.row(7);
        d.text("0:20,1:20");
        d.is("no way", d.x.few(), -2);
        d.row(7);
        d.is("load", d.x.load(1, 1, 0), 1);
        d.text("0:5");
        d.is("not the first", d.x.few(), 1);
        d.row(2);
        d.is("fumes", d.x.fumes(1, 1), 1);
        d.text("0:5");
        d.is("not a closed one", d.x.few(), 1);
        d.row(4);
        d.is("none", d.x.few(), 0);
        d.row(0);
        d.is("nothing lies", d.x.count(1), 1);
        d = Due.landed("few, least bits", "b0c9;b1c11;b2c10;b3c12");
        d.text("0:7,0:2,0:8,0:4");
        d.is("not those of the first row", d.x.few(), 2);
        d.row(6);
        d = Due.landed("few, layers", "b0c20;b1c3");
        for (int i = 0; i < 6; i++) {
            d.is("load", d.x.load(i, 1, 0), i + 1);
        }
        d.text("5:1,5:1");
        d.is("on top", d.x.few(), 1);
        d.row(1);
        d.is("days", d.x.days(1), 1);
        d.text("5:1,5:1");
        d.is("of another day", d.x.few(), 1);
        d.row(2);
    }

    static void room() {
        Due d = Due.landed("room", "b0c10;b1c99;b2c10;b3c99;x01");
        d.is("room", d.x.room(0), 99);
        d.row(1);
        d.is("load", d.x.load(1, 1, 1), 1);
        d.is("apart", d.x.room(0), 99);
        d.row(3);
        d.is("room", d.x.room(1), 99);
        d.row(3);
        d.is("fumes", d.x.fumes(3, 1), 1);
        d.is("closed", d.x.room(0), 10);
        d.row(0);
        d.is("room", d.x.room(1), 98);
        d.row(1);
        for (int i = 0; i < 5; i++) {
            d.is("load", d.x.load(2 + i % 2, 1, 1), i + 2);
        }
        d.is("layers", d.x.room(1), 10);
        d.row(0);
        d.is("on top", d.x.room(2), 93);
        d.row(1);
        d.is("load", d.x.load(0, 10, 0), 10);
        d.is("load", d.x.load(0, 10, 2), 10);
        d.is("nothing", d.x.room(1), 0);
        d.row(-1);
        d.is("none", d.x.room(6), -1);
        d.is("none", d.x.room(-1), -1);
        d.row(-1);
    }

    static void takers() {
        Due d = Due.landed("takers", "b0c10;b1c99;b3c20;x01");
        d.is("takers", d.x.takers(10), 11);
        d.row(3, 3, 3, 3, 3, 3);
        d.is("load", d.x.load(1, 1, 1), 1);
        d.is("load", d.x.load(0, 1, 3), 1);
        d.is("takers", d.x.takers(19), 10);
        d.row(1, 1, 2, 2, 2, 2);
        d.is("takers", d.x.takers(99), 0);
        d.row(0, 0, 0, 0, 0, 0);
        d.is("fumes", d.x.fumes(1, 1), 1);
        d.is("takers", d.x.takers(1), 9);
        d.row(2, 1, 2, 2, 2, 2);
        for (int i = 0; i < 5; i++) {
            d.is("load", d.x.load(2 + i % 2, 1, 3), i + 2);
        }
        d.is("layers", d.x.takers(1), 9);
        d.row(1, 1, 2, 1, 1, 1);
        d.is("none", d.x.takers(0), -1);
        d.is("none", d.x.takers(100), -1);
        d.is("none", d.x.takers(-5), -1);
        d.row(1, 1, 2, 1, 1, 1);
    }
}
