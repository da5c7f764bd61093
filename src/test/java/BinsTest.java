/** Promises 1, 5, 6, 7, 8. */
public final class BinsTest {
    public static void main(String[] args) {
        fresh();
        grades();
        pairs();
        bins();
        layers();
        Due.end();
    }

    static void fresh() {
        Due d = new Due("new");
        for (int i = 0; i < 6; i++) {
            d.is("worth", d.x.grade(i, 0), 0);
            d.is("keep", d.x.grade(i, 1), 99);
            d.is("tons", d.x.grade(i, 2), 0);
            for (int k = 0; k < 6; k++) {
                d.is("pair", d.x.pair(i, k), 0);
            }
            for (int what = 0; what < 5; what++) {
                d.is("bin", d.x.bin(i, what), 0);
            }
        }
        int[] counts = {0, 0, 0, 0, 63, 0, 0, 0, 0};
        for (int what = 0; what < counts.length; what++) {
            d.is("count", d.x.count(what), counts[what]);
        }
        d.row();
        d.lies("");
        d.is("NONE", GrainBins.NONE, -1);
    }

    static void grades() {
        Due d = Due.landed("grade", Due.YARD);
        d.is("load", d.x.load(1, 7, 0), 7);
        d.is("load", d.x.load(0, 2, 0), 9);
        d.is("load", d.x.load(1, 3, 1), 3);
        d.is("worth", d.x.grade(1, 0), 90);
        d.is("keep", d.x.grade(1, 1), 20);
        d.is("tons", d.x.grade(1, 2), 10);
        d.is("tons", d.x.grade(0, 2), 2);
        d.is("tons", d.x.grade(2, 2), 0);
        d.is("what -1", d.x.grade(1, -1), -1);
        d.is("what 3", d.x.grade(1, 3), -1);
        d.is("grade -1", d.x.grade(-1, 0), -1);
        d.is("grade 6", d.x.grade(6, 0), -1);
        d.is("extremes", d.x.grade(Integer.MIN_VALUE, Integer.MAX_VALUE), -1);
    }

    static void pairs() {
        Due d = Due.landed("pair", Due.YARD);
        d.is("loss", d.x.pair(0, 1), 5);
        d.is("loss", d.x.pair(1, 0), 5);
        d.is("apart", d.x.pair(0, 2), -2);
        d.is("apart", d.x.pair(2, 0), -2);
        d.is("itself", d.x.pair(2, 2), 0);
        d.is("untold", d.x.pair(1, 2), 0);
        d.is("none", d.x.pair(-1, 0), -1);
        d.is("none", d.x.pair(0, 6), -1);
        d.is("none", d.x.pair(6, 6), -1);
        d.is("none", d.x.pair(0, -1), -1);
    }

    static void bins() {
        Due d = Due.landed("bin", Due.YARD);
        d.is("load", d.x.load(0, 20, 0), 20);
        d.is("load", d.x.load(1, 10, 0), 30);
        d.is("load", d.x.load(0, 1, 0), 31);
        d.is("cap", d.x.bin(0, 0), 50);
        d.is("tons", d.x.bin(0, 1), 31);
        d.is("layers", d.x.bin(0, 2), 3);
        d.is("open", d.x.bin(0, 3), 0);
        d.is("grades", d.x.bin(0, 4), 3);
        d.is("what 5", d.x.bin(0, 5), -1);
        d.is("what -1", d.x.bin(0, -1), -1);
        d.is("bin 6", d.x.bin(6, 0), -1);
        d.is("bin -1", d.x.bin(-1, 0), -1);
        d.is("days", d.x.days(10), 10);
        d.is("fumes", d.x.fumes(0, 4), 14);
        d.is("closed", d.x.bin(0, 3), 4);
        d.is("days", d.x.days(3), 13);
        d.is("closed", d.x.bin(0, 3), 1);
        d.is("days", d.x.days(1), 14);
        d.is("open", d.x.bin(0, 3), 0);
        d.is("days", d.x.days(1), 15);
        d.is("open", d.x.bin(0, 3), 0);
        d.is("draw", d.x.draw(0, 20), 2000);
        d.is("grades", d.x.bin(0, 4), 3);
        d.is("draw", d.x.draw(0, 10), 900);
        d.is("grades", d.x.bin(0, 4), 1);
    }

    static void layers() {
        Due d = Due.landed("layer", Due.YARD);
        d.is("load", d.x.load(2, 4, 1), 4);
        d.is("days", d.x.days(8), 8);
        d.is("load", d.x.load(1, 6, 1), 10);
        int[][] want = {{2, 4, 0, 47}, {1, 6, 8, 90}};
        for (int i = 0; i < 2; i++) {
            for (int what = 0; what < 4; what++) {
                d.is("layer", d.x.layer(1, i, what), want[i][what]);
            }
            d.is("what 4", d.x.layer(1, i, 4), -1);
            d.is("what -1", d.x.layer(1, i, -1), -1);
        }
        d.is("no layer", d.x.layer(1, 2, 0), -1);
        d.is("no layer", d.x.layer(1, -1, 0), -1);
        d.is("no layer", d.x.layer(0, 0, 0), -1);
        d.is("no bin", d.x.layer(6, 0, 0), -1);
        d.is("no bin", d.x.layer(-1, 0, 0), -1);
        // the day on which it is just too old, the days on which nothing is left of it
        d = Due.landed("unit", "g0w3k2;b0c9");
        d.is("load", d.x.load(0, 1, 0), 1);
        int[] units = {3, 3, 2, 1, 0, 0};
        for (int day = 1; day <= 6; day++) {
            d.is("days", d.x.days(1), day);
            d.is("unit", d.x.layer(0, 0, 3), units[day - 1]);
        }
        d.is("fumes", d.x.fumes(0, 20), 26);
        d.is("since", d.x.layer(0, 0, 2), 26);
        d.is("unit", d.x.layer(0, 0, 3), 3);
    }
}
