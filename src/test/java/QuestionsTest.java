/** Promises 16 and 17: when something comes, and how thick a row would be. */
public final class QuestionsTest {
    private static final int MIN = Integer.MIN_VALUE;
    private static final int MAX = Integer.MAX_VALUE;
    private static final Check CHECK = new Check();

    public static void main(String[] args) {
        wrongQuestions();
        untilTheBurst();
        untilBlackRows();
        untilTheTopColour();
        untilDrops();
        notBehindAThousandTicks();
        ifTicksWentBy();
        nothingChanges();
        CHECK.end("QuestionsTest");
    }

    private static void wrongQuestions() {
        int[][] wrong = {{-1, 0}, {4, 0}, {4, 1}, {0, 1}, {0, -1}, {1, 0}, {1, 25}, {2, -1}, {2, 8},
            {3, 0}, {3, 101}, {MIN, 0}, {MAX, 0}, {0, MAX}, {1, MIN}, {2, MAX}, {3, MIN}};
        for (SoapFilm x : new SoapFilm[] {new SoapFilm(), Check.filmOf("100x3")}) {
            for (int[] a : wrong) {
                CHECK.due("until(" + a[0] + ", " + a[1] + ")", x.until(a[0], a[1]), -1);
            }
        }
    }

    /** Settings: slope, drying, running, black limit, least thickness, most black rows, drop. */
    private static void untilTheBurst() {
        SoapFilm x = new SoapFilm();
        CHECK.due("until(0, 0) without a film", x.until(0, 0), 0);
        x = Check.filmOf("100,8", 0, 1, 0, 1, 5, 24, 100000);
        CHECK.due("until(0, 0)", x.until(0, 0), 4);
        x.go(3);
        CHECK.due("until(0, 0) one tick before", x.until(0, 0), 1);
        x.go(1);
        CHECK.due("until(0, 0) when burst", x.until(0, 0), 0);
        x = Check.filmOf("100", 0, 0, 0, 1, 5, 24, 100000);
        CHECK.due("until(0, 0) never", x.until(0, 0), -4);
    }

    private static void untilBlackRows() {
        SoapFilm x = new SoapFilm();
        CHECK.due("until(1, 1) without a film", x.until(1, 1), -4);
        x = Check.filmOf("20,35,32,100", 0, 1, 0, 30, 5, 24, 100000);
        CHECK.due("until(1, 1), so now", x.until(1, 1), 0);
        CHECK.due("until(1, 2)", x.until(1, 2), 3);
        CHECK.due("until(1, 3)", x.until(1, 3), 6);
        CHECK.due("until(1, 4), the film bursts before", x.until(1, 4), -4);
        CHECK.due("until(1, 24)", x.until(1, 24), -4);
        x = Check.filmOf("32,31", 0, 1, 0, 30, 5, 1, 100000);
        CHECK.due("until(1, 1)", x.until(1, 1), 2);
        CHECK.due("until(1, 2), the film bursts then", x.until(1, 2), -4);
        x = Check.filmOf("32,32", 0, 1, 0, 30, 5, 24, 100000);
        CHECK.due("until(1, 1), two come at once", x.until(1, 1), 3);
    }

    private static void untilTheTopColour() {
        SoapFilm x = new SoapFilm();
        for (int colour = 0; colour <= 7; colour++) {
            CHECK.due("until(2, " + colour + ") without a film", x.until(2, colour), -4);
        }
        x = Check.filmOf("100,200", 0, 1, 0, 30, 5, 24, 100000);
        int first = 100;
        while (x.colourOf(first) != 0) {
            first--;
        }
        CHECK.due("until(2, 7), so now", x.until(2, 7), 0);
        CHECK.due("until(2, 0)", x.until(2, 0), 100 - first);
        x = Check.filmOf("200,100", 0, 1, 0, 30, 5, 24, 100000);
        CHECK.due("until(2, 0), so now", x.until(2, 0), 0);
        CHECK.due("until(2, 7), not the colour of the row below", x.until(2, 7) > 0 ? 1 : 0, 1);
        // path 489 at 184 has red at 496, path 486 at 183 has it at 506
        CHECK.due("until(2, 4)", x.until(2, 4), 17);
        x = Check.filmOf("40,100", 0, 1, 0, 30, 5, 24, 100000);
        CHECK.due("until(2, 4) never, the film bursts", x.until(2, 4), -4);
        x = Check.filmOf("100,100", 0, 0, 0, 30, 5, 24, 100000);
        CHECK.due("until(2, 4) never, the film stays", x.until(2, 4), -4);
        x = Check.filmOf("185", 0, 1, 0, 30, 5, 24, 100000);
        CHECK.due("until(2, 4) of a single row", x.until(2, 4), 2);
        x = Check.filmOf("100,5", 0, 1, 0, 30, 5, 24, 100000);
        CHECK.due("until(2, 0), the film bursts before", x.until(2, 0), -4);
    }

    private static void untilDrops() {
        SoapFilm x = new SoapFilm();
        CHECK.due("until(3, 1) without a film", x.until(3, 1), -4);
        x = Check.filmOf("0,5000", 0, 0, 100, 30, 0, 24, 200);
        CHECK.due("until(3, 1)", x.until(3, 1), 2);
        CHECK.due("until(3, 2)", x.until(3, 2), 4);
        CHECK.due("until(3, 25)", x.until(3, 25), 50);
        CHECK.due("until(3, 26), the liquid is gone", x.until(3, 26), -4);
        CHECK.due("until(3, 24)", x.until(3, 24), 48);
        x.go(3);
        CHECK.due("until(3, 1) more", x.until(3, 1), 1);
        CHECK.due("until(3, 2) more", x.until(3, 2), 3);
        x = Check.filmOf("1000,1000", 0, 0, 500, 30, 5, 24, 1);
        x.thin(0, 1000);
        CHECK.due("until(3, 1) in the tick of the burst", x.until(3, 1), 1);
        CHECK.due("until(3, 2) behind the burst", x.until(3, 2), -4);
        x = Check.filmOf("0,5000", 0, 0, 10, 30, 0, 24, 1);
        CHECK.due("until(3, 100)", x.until(3, 100), 100);
    }

    private static void notBehindAThousandTicks() {
        SoapFilm x = Check.filmOf("1004", 0, 1, 0, 1, 5, 24, 100000);
        CHECK.due("until(0, 0) behind 1000 ticks", x.until(0, 0), 1000);
        x.pour(0, 1);
        CHECK.due("until(0, 0) behind 1001 ticks", x.until(0, 0), -4);
        x = Check.filmOf("1029", 0, 1, 0, 30, 5, 24, 100000);
        CHECK.due("until(1, 1) behind 1000 ticks", x.until(1, 1), 1000);
        x.pour(0, 1);
        CHECK.due("until(1, 1) behind 1001 ticks", x.until(1, 1), -4);
        x = Check.filmOf("0,5000", 0, 0, 4, 30, 0, 24, 4000);
        CHECK.due("until(3, 1) behind 1000 ticks", x.until(3, 1), 1000);
        x.set(6, 4001);
        CHECK.due("until(3, 1) behind 1001 ticks", x.until(3, 1), -4);
        x = Check.filmOf("0,5000,10", 0, 0, 5, 30, 0, 24, 100000);
        CHECK.due("until(3, 1) never", x.until(3, 1), -4);
    }

    private static void ifTicksWentBy() {
        SoapFilm x = new SoapFilm();
        CHECK.due("ifGo(0, 1) without a film", x.ifGo(0, 1), -1);
        x = Check.filmOf("100,8", 0, 1, 0, 1, 5, 24, 100000);
        CHECK.due("ifGo(0, 1)", x.ifGo(0, 1), 99);
        CHECK.due("ifGo(1, 3)", x.ifGo(1, 3), 5);
        CHECK.due("ifGo(0, 4), the film bursts then", x.ifGo(0, 4), -4);
        CHECK.due("ifGo(0, 5), the film bursts before", x.ifGo(0, 5), -4);
        int[][] wrong = {{-1, 1}, {2, 1}, {0, 0}, {0, 1001}, {0, -1}, {MIN, 1}, {MAX, 1}, {0, MIN}, {0, MAX}, {2, 0}};
        for (int[] a : wrong) {
            CHECK.due("ifGo(" + a[0] + ", " + a[1] + ")", x.ifGo(a[0], a[1]), -1);
        }
        x = Check.filmOf("5000", 0, 1, 0, 1, 5, 24, 100000);
        CHECK.due("ifGo(0, 1000)", x.ifGo(0, 1000), 4000);
        x = Check.filmOf("1000,1000", 100, 0, 0, 1, 0, 24, 100000);
        CHECK.due("ifGo(0, 1) of draining", x.ifGo(0, 1), 900);
        CHECK.due("ifGo(1, 1) of draining", x.ifGo(1, 1), 1000);
    }

    private static void nothingChanges() {
        SoapFilm x = Check.filmOf("1000,500,31,29", 100, 1, 20, 30, 5, 2, 100);
        int[] before = new int[40];
        for (int i = 0; i < before.length; i++) {
            before[i] = x.count(i);
        }
        x.until(0, 0);
        x.until(1, 3);
        x.until(2, 0);
        x.until(3, 5);
        x.ifGo(0, 1000);
        x.ifGo(0, 3);
        for (int i = 0; i < before.length; i++) {
            CHECK.due("behind questions: count(" + i + ")", x.count(i), before[i]);
        }
        CHECK.rows("behind questions", x, 1000, 500, 31, 29);
    }
}
