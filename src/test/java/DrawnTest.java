/** Promises 28 to 32. */
public final class DrawnTest {
    public static void main(String[] args) {
        bottom();
        reaches();
        serves();
        picks();
        empties();
        emptiesOnTop();
        Due.end();
    }

    static void bottom() {
        Due d = Due.landed("bottom", "b0c50;b1c50");
        d.is("empty", d.x.bottom(0), -2);
        d.row();
        d.is("load", d.x.load(3, 4, 0), 4);
        d.is("bottom", d.x.bottom(0), 3);
        d.row(4, 1);
        d.is("days", d.x.days(1), 1);
        d.is("load", d.x.load(3, 5, 0), 9);
        d.is("bottom", d.x.bottom(0), 3);
        d.row(9, 2);
        d.is("load", d.x.load(2, 5, 0), 14);
        d.is("load", d.x.load(3, 5, 0), 19);
        d.is("bottom", d.x.bottom(0), 3);
        d.row(9, 2);
        d.is("fumes", d.x.fumes(0, 1), 2);
        d.is("closed", d.x.bottom(0), 3);
        d.row(9, 1);
        d.is("none", d.x.bottom(6), -1);
        d.is("none", d.x.bottom(-1), -1);
        d.is("empty", d.x.bottom(1), -2);
        d.row(9, 1);
    }

    static void reaches() {
        Due d = Due.landed("reaches", "b0c50;b1c50;b2c50");
        d.is("load", d.x.load(1, 4, 0), 4);
        d.is("load", d.x.load(0, 3, 0), 7);
        d.is("load", d.x.load(1, 1, 0), 8);
        d.is("days", d.x.days(1), 1);
        d.is("load", d.x.load(1, 5, 0), 13);
        d.is("load", d.x.load(2, 6, 1), 6);
        d.is("load", d.x.load(1, 9, 1), 15);
        d.is("lowest", d.x.reaches(1, 4), 0);
        d.row(0);
        d.is("the other bin", d.x.reaches(1, 5), 6);
        d.row(1);
        d.is("load", d.x.load(0, 3, 2), 3);
        d.is("load", d.x.load(2, 3, 2), 6);
        d.is("load", d.x.load(1, 9, 2), 15);
        d.is("equal", d.x.reaches(1, 9), 6);
        d.row(1);
        d.is("none", d.x.reaches(1, 10), -2);
        d.is("fumes", d.x.fumes(1, 9), 10);
        d.is("closed", d.x.reaches(1, 7), 6);
        d.row(2);
        d.is("fumes", d.x.fumes(2, 9), 10);
        d.is("over two layers", d.x.reaches(1, 6), 7);
        d.row(0);
        d.is("none", d.x.reaches(1, 7), -2);
        d.row(0);
        d.is("none", d.x.reaches(6, 1), -1);
        d.is("none", d.x.reaches(-1, 1), -1);
        d.is("none", d.x.reaches(0, 0), -1);
        d.is("none", d.x.reaches(0, 100), -1);
    }

    static void serves() {
        Due d = Due.landed("serves", "b0c50;b1c50;b2c50;b3c50");
        d.is("load", d.x.load(0, 5, 0), 5);
        d.is("load", d.x.load(1, 5, 0), 10);
        d.is("load", d.x.load(0, 5, 1), 5);
        d.is("load", d.x.load(2, 5, 1), 10);
        d.text("0:5,2:5,1:1");
        d.is("the second bin first", d.x.serves(), 2);
        d.row(1, 1);
        d.text("0:5,0:5,2:5,1:5");
        d.is("all", d.x.serves(), 4);
        d.row(0, 1, 1, 0);
        d.text("0:6,0:1");
        d.is("none", d.x.serves(), 0);
        d.row();
        d.text("0:4,0:1,1:6");
        d.is("two", d.x.serves(), 2);
        d.row(0, 0);
        d.is("days", d.x.days(1), 1);
        d.is("load", d.x.load(3, 2, 3), 2);
        d.is("fumes", d.x.fumes(3, 1), 2);
        d.text("3:1");
        d.is("closed", d.x.serves(), 0);
        d.is("days", d.x.days(1), 2);
        d.is("load", d.x.load(3, 2, 3), 4);
        d.is("days", d.x.days(1), 3);
        d.is("load", d.x.load(3, 2, 3), 6);
        d.text("3:6");
        d.is("over layers", d.x.serves(), 1);
        d.row(3);
        d.text("3:5,3:2");
        d.is("not so much", d.x.serves(), 1);
        d.row(3);
        d.text("0:5,2:5,0:5");
        d.is("what was tried in vain lies there still", d.x.serves(), 3);
        d.row(1, 1, 0);
        d.is("nothing drawn", d.x.count(1), 26);
        d.is("no orders", d.x.serves(), 0);
        d.row();
    }

    static void picks() {
        Due d = Due.landed("picks", "b0c50;b1c50");
        d.is("load", d.x.load(0, 5, 0), 5);
        d.is("load", d.x.load(1, 5, 0), 10);
        d.text("1:5,0:5,1:5");
        d.is("the first is left out", d.x.picks(), 2);
        d.row(6, 0, 0);
        d.text("0:5,0:2,0:3,1:4");
        d.is("more of the lesser ones", d.x.picks(), 3);
        d.row(6, 0, 0, 0);
        d.text("2:1,3:1");
        d.is("none", d.x.picks(), 0);
        d.row(6, 6);
        d.is("load", d.x.load(0, 5, 1), 5);
        d.text("0:5,1:1,0:5");
        d.is("all", d.x.picks(), 3);
        d.row(0, 0, 1);
        d.text("0:5,0:5,0:5");
        d.is("the first row", d.x.picks(), 2);
        d.row(0, 1, 6);
        d.is("no orders", d.x.picks(), 0);
        d.row();
        d.is("fumes", d.x.fumes(0, 1), 1);
        d.text("0:5,0:1");
        d.is("closed", d.x.picks(), 1);
        d.row(1, 6);
    }

    static void empties() {
        Due d = Due.landed("empties", "g0w9k9;b0c50;b1c10;b2c10;b3c6;l017;l122;x24;x23");
        d.is("empty", d.x.empties(4), 0);
        d.row();
        d.is("load", d.x.load(0, 5, 0), 5);
        d.is("load", d.x.load(1, 5, 0), 10);
        d.is("load", d.x.load(2, 4, 0), 14);
        d.is("each alone", d.x.empties(0), 0);
        d.row(1, 2, 1);
        d.is("load", d.x.load(3, 1, 3), 1);
        d.is("load", d.x.load(1, 3, 1), 3);
        d.is("load", d.x.load(4, 7, 2), 7);
        d.is("no way", d.x.empties(0), -3);
        d.row(1, 2, 1);
        d.is("draw", d.x.draw(2, 5), 0);
        d.is("2 must lie with 1", d.x.empties(0), 6);
        d.row(2, 3, 1);
        d.lies("0:0x5,1x5,2x4;1:1x3;2:4x2;3:3x1");
        d.is("fumes", d.x.fumes(2, 1), 1);
        d.is("the other is closed", d.x.empties(0), -3);
        d.is("closed", d.x.empties(2), -2);
        d.is("none", d.x.empties(6), -1);
        d.is("none", d.x.empties(-1), -1);
        d.row(2, 3, 1);
    }

    /** What comes on top of its like is no LAYER more; SINCE stays as it is. */
    static void emptiesOnTop() {
        Due d = Due.landed("empties on top", "b0c50;b1c50");
        for (int i = 0; i < 6; i++) {
            d.is("load", d.x.load(i, 1, 1), i + 1);
        }
        d.is("load", d.x.load(5, 1, 0), 1);
        d.is("one layer", d.x.empties(0), 0);
        d.row(1);
        d.is("days", d.x.days(1), 1);
        d.is("the day does not matter", d.x.empties(0), 0);
        d.is("load", d.x.load(5, 1, 0), 2);
        d.is("not alike", d.x.empties(0), -3);
    }
}
