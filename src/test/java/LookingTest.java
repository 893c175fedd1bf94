/** Promises 10 to 15: what a row, the whole film and a thickness look like. */
public final class LookingTest {
    private static final int MIN = Integer.MIN_VALUE;
    private static final int MAX = Integer.MAX_VALUE;
    private static final Check CHECK = new Check();

    public static void main(String[] args) {
        rowByRow();
        lightOfEveryThickness();
        wrongRows();
        counting();
        countsOfALivingFilm();
        climbing();
        finding();
        colouring();
        thicknesses();
        CHECK.end("LookingTest");
    }

    private static void properties(SoapFilm x, int row, int... due) {
        for (int what = 0; what < due.length; what++) {
            CHECK.due("row(" + row + ", " + what + ")", x.row(row, what), due[what]);
        }
    }

    private static void rowByRow() {
        SoapFilm x = Check.filmOf("0,29,30,100,199,200,5000");
        properties(x, 0, 0, 0, 0, 0, 0, 0, 0, 1);
        // path 77: phases 118, 145, 167
        properties(x, 1, 29, 77, 236, 290, 334, 0, 0, 1);
        // path 79: phases 121, 149, 171
        properties(x, 2, 30, 79, 242, 298, 342, 0, 0, 0);
        // path 266: phases 409, 501, 578
        properties(x, 3, 100, 266, 818, 998, 844, 7, 0, 0);
        // path 529: phases 813, 998, 150 (1150)
        properties(x, 4, 199, 529, 374, 4, 300, 0, 0, 0);
        // path 532: phases 818, 3 (1003), 156 (1156)
        properties(x, 5, 200, 532, 364, 6, 312, 0, 1, 0);
        // path 13300: phases 461 (20461), 94 (25094), 913 (28913)
        properties(x, 6, 5000, 13300, 922, 188, 174, 4, 25, 0);
        x.set(3, 101);
        properties(x, 3, 100, 266, 818, 998, 844, 0, 0, 1);
        x.set(3, 100);
        properties(x, 3, 100, 266, 818, 998, 844, 7, 0, 0);
    }

    private static void lightOfEveryThickness() {
        for (int start = 0; start <= 5000; start += 24) {
            SoapFilm x = new SoapFilm();
            x.dip(Math.min(24, 5001 - start), start, 1);
            for (int i = 0; i < x.count(0); i++) {
                lightOf(x, i);
            }
        }
    }

    private static void lightOf(SoapFilm x, int row) {
        int thickness = x.row(row, 0);
        int path = thickness * 266 / 100;
        int[] waves = {650, 530, 460};
        int colour = 0;
        for (int i = 0; i < waves.length; i++) {
            int phase = path * 1000 / waves[i] % 1000;
            int brightness = Math.min(2 * phase, 2000 - 2 * phase);
            CHECK.due("brightness " + i + " of " + thickness, x.row(row, 2 + i), brightness);
            colour += brightness >= 500 ? 4 >> i : 0;
        }
        colour = thickness < 30 ? 0 : colour;
        CHECK.due("path of " + thickness, x.row(row, 1), path);
        CHECK.due("colour of " + thickness, x.row(row, 5), colour);
        CHECK.due("colourOf(" + thickness + ")", x.colourOf(thickness), colour);
        CHECK.due("order of " + thickness, x.row(row, 6), path / 530);
        CHECK.due("blackness of " + thickness, x.row(row, 7), thickness < 30 ? 1 : 0);
    }

    private static void wrongRows() {
        SoapFilm x = new SoapFilm();
        CHECK.due("row(0, 0) without a film", x.row(0, 0), -1);
        x = Check.filmOf("100,200");
        int[][] wrong = {{-1, 0}, {2, 0}, {24, 0}, {0, -1}, {0, 8}, {MIN, 0}, {MAX, 0}, {0, MIN}, {0, MAX}};
        for (int[] a : wrong) {
            CHECK.due("row(" + a[0] + ", " + a[1] + ")", x.row(a[0], a[1]), -1);
        }
        x.cut();
        CHECK.due("row(1, 0) of a row cut off", x.row(1, 0), -1);
    }

    private static void counting() {
        SoapFilm x = new SoapFilm();
        int[] wrong = {-1, 13, 14, 19, 27, 28, 29, 37, MIN, MAX};
        for (int what : wrong) {
            CHECK.due("count(" + what + ")", x.count(what), -1);
        }
        // colours: 0 (black), 7, 7, 0 (not black), 4, 7
        x = Check.filmOf("10,100,100,200,5000,100");
        int[] due = {6, 0, 1, 4, 3, 25, 0, -4, -4, 0, 0, 1, 23};
        for (int i = 0; i < due.length; i++) {
            CHECK.due("count(" + i + ")", x.count(i), due[i]);
        }
        x = Check.filmOf("100x24");
        CHECK.due("count(0) of 24 rows", x.count(0), 24);
        CHECK.due("count(3) of one colour", x.count(3), 0);
        CHECK.due("count(4) of one colour", x.count(4), 1);
        CHECK.due("count(5) of order 0", x.count(5), 0);
        x = Check.filmOf("10,200");
        CHECK.due("count(3): black and dark are one colour", x.count(3), 0);
        CHECK.due("count(4): black and dark are one colour", x.count(4), 1);
        CHECK.due("count(2)", x.count(2), 1);
        x.set(3, 10);
        CHECK.due("count(2) by another limit", x.count(2), 0);
        x = Check.filmOf("5000,100");
        CHECK.due("count(4) of two colours", x.count(4), 2);
        CHECK.due("count(5) is the greatest, not the last", x.count(5), 25);
    }

    private static void countsOfALivingFilm() {
        SoapFilm x = Check.filmOf("1000", 100, 2, 0, 1, 5, 24, 150);
        x.go(2);
        // 1000 - 100 - 2 = 898, then 898 - 80 - 2 = 816; the drop holds 180 and falls
        CHECK.due("count(1)", x.count(1), 2);
        CHECK.due("count(10)", x.count(10), 1);
        CHECK.accounts("two ticks", x, 1000, 816, 0, 180, 4, 0, 0);
        x.thin(0, 812);
        x.go(1);
        CHECK.due("count(5) behind a burst", x.count(5), -4);
        CHECK.due("count(6)", x.count(6), 1);
        CHECK.due("count(7)", x.count(7), 0);
        CHECK.due("count(8)", x.count(8), 2);
        CHECK.due("count(9)", x.count(9), 1);
        CHECK.accounts("burst", x, 1000, 0, 0, 180, 6, 2, 812);
        x.undo();
        CHECK.due("count(6) behind undo", x.count(6), 0);
        CHECK.due("count(7) behind undo", x.count(7), -4);
        CHECK.due("count(8) behind undo", x.count(8), -4);
        CHECK.due("count(9) behind undo", x.count(9), 0);
    }

    private static void climbing() {
        SoapFilm x = new SoapFilm();
        CHECK.due("ladder(0) without a film", x.ladder(0), -4);
        CHECK.due("ladder(-1) without a film", x.ladder(-1), -1);
        x = Check.filmOf("10,200,100,100,200,5000,100");
        int[] due = {0, 7, 0, 4, 7, -4, -4};
        for (int i = 0; i < due.length; i++) {
            CHECK.due("ladder(" + i + ")", x.ladder(i), due[i]);
        }
        CHECK.due("ladder(MAX)", x.ladder(MAX), -4);
        CHECK.due("ladder(-1)", x.ladder(-1), -1);
        CHECK.due("ladder(MIN)", x.ladder(MIN), -1);
    }

    private static void finding() {
        SoapFilm x = new SoapFilm();
        CHECK.due("find(0, 0) without a film", x.find(0, 0), -4);
        CHECK.due("find(8, 0) without a film", x.find(8, 0), -1);
        x = Check.filmOf("10,100,100,200,5000,100");
        int[][] due = {{0, 0, 0}, {0, 1, 3}, {0, 4, -4}, {7, 0, 1}, {7, 1, 1}, {7, 2, 2}, {7, 3, 5},
            {7, 5, 5}, {7, 6, -4}, {4, 0, 4}, {1, 0, -4}, {7, 24, -4}, {7, MAX, -4}, {-1, 0, -1},
            {8, 0, -1}, {7, -1, -1}, {MIN, 0, -1}, {MAX, 0, -1}, {7, MIN, -1}};
        for (int[] a : due) {
            CHECK.due("find(" + a[0] + ", " + a[1] + ")", x.find(a[0], a[1]), a[2]);
        }
    }

    private static void colouring() {
        SoapFilm x = new SoapFilm();
        CHECK.due("colourOf(0)", x.colourOf(0), 0);
        CHECK.due("colourOf(100)", x.colourOf(100), 7);
        CHECK.due("colourOf(5000)", x.colourOf(5000), 4);
        CHECK.due("colourOf(5001)", x.colourOf(5001), -1);
        CHECK.due("colourOf(-1)", x.colourOf(-1), -1);
        CHECK.due("colourOf(MIN)", x.colourOf(MIN), -1);
        CHECK.due("colourOf(MAX)", x.colourOf(MAX), -1);
        x.set(3, 101);
        CHECK.due("colourOf(100), black", x.colourOf(100), 0);
        CHECK.due("colourOf(101)", x.colourOf(101), 7);
        x.undo();
        CHECK.due("colourOf(100) behind undo", x.colourOf(100), 7);
    }

    private static void thicknesses() {
        SoapFilm x = new SoapFilm();
        CHECK.due("thicknessFor(0, 0)", x.thicknessFor(0, 0), 0);
        CHECK.due("thicknessFor(7, 100)", x.thicknessFor(7, 100), 100);
        CHECK.due("thicknessFor(4, 5000)", x.thicknessFor(4, 5000), 5000);
        CHECK.due("thicknessFor(7, 5000)", x.thicknessFor(7, 5000), -4);
        int[][] wrong = {{-1, 0}, {8, 0}, {0, -1}, {0, 5001}, {MIN, 0}, {MAX, 0}, {0, MIN}, {0, MAX}};
        for (int[] a : wrong) {
            CHECK.due("thicknessFor(" + a[0] + ", " + a[1] + ")", x.thicknessFor(a[0], a[1]), -1);
        }
        for (int colour = 0; colour <= 7; colour++) {
            leastThicknesses(colour);
        }
        x.set(3, 200);
        CHECK.due("thicknessFor(0, 100), black", x.thicknessFor(0, 100), 100);
        CHECK.due("thicknessFor(7, 100), not black", x.thicknessFor(7, 100) >= 200 ? 1 : 0, 1);
    }

    private static void leastThicknesses(int colour) {
        int from = 0;
        for (int i = 0; i < 100 && from >= 0 && from <= 5000; i++) {
            int found = new SoapFilm().thicknessFor(colour, from);
            for (int t = from; t < (found == -4 ? 5001 : found); t++) {
                CHECK.holds(t + " has not the colour " + colour, new SoapFilm().colourOf(t) != colour);
            }
            if (found >= 0) {
                CHECK.due("the colour of " + found, new SoapFilm().colourOf(found), colour);
            }
            from = found < 0 ? -1 : found + 37;
        }
    }
}
