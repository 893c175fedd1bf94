import java.util.List;
import java.util.function.Supplier;

/**
 * The edges that promises 10 to 15 and the light name, a test for each sentence: the last that is
 * taken and the first that is refused, no film and a full one, and that no look changes anything.
 */
public final class LookingEdgesTest {
    private static final int MIN = Integer.MIN_VALUE;
    private static final int MAX = Integer.MAX_VALUE;
    private static final List<Supplier<SoapFilm>> ALL = List.of(Films::none, Films::burst, Films::three,
            Films::longHistory, Films::full, Films::fullText, Films::lastTick);
    private static final List<Supplier<SoapFilm>> NO_FILM = List.of(Films::none, Films::burst);
    private static final Check CHECK = new Check();
    private static final Twins TWINS = new Twins(CHECK);

    public static void main(String[] args) {
        brightnessAtHalfATurn();
        brightnessAroundATurn();
        brightEnoughForAColour();
        blackBelowTheLimit();
        orderAtEachWave();
        rowTakes();
        rowRefuses();
        countTakes();
        countRefuses();
        countsWithoutAFilm();
        countsOfAFullFilm();
        countsOfBursts();
        fringes();
        ladderTakes();
        ladderRefuses();
        findTakes();
        findRefuses();
        colourOfTakes();
        colourOfRefuses();
        thicknessForTakes();
        thicknessForRefuses();
        looksChangeNothing();
        CHECK.end("LookingEdgesTest");
    }

    private static void bright(int what, int thickness, int brightness) {
        CHECK.due("row(0, " + what + ") of " + thickness, Check.filmOf("" + thickness).row(0, what), brightness);
    }

    /** "2 * phase, if the phase is at most 500, otherwise 2 * (1000 - phase)". */
    private static void brightnessAtHalfATurn() {
        // paths 1625, 795 and 3450 have the phase 500, paths 976, 266 and 1854 have 501, 501 and 30
        bright(2, 611, 1000);
        bright(2, 367, 998);
        bright(3, 299, 1000);
        bright(3, 100, 998);
        bright(4, 1297, 1000);
        bright(4, 697, 60);
        // paths 324, 263 and 228 have the phases 498, 496 and 495
        bright(2, 122, 996);
        bright(3, 99, 992);
        bright(4, 86, 990);
    }

    /** "Modulo 1000": a whole turn is dark, and so is what is next to it. */
    private static void brightnessAroundATurn() {
        bright(2, 0, 0);
        bright(3, 0, 0);
        bright(4, 0, 0);
        bright(2, 489, 0);
        bright(3, 598, 0);
        bright(4, 173, 0);
        // paths 651 and 1061 have the phases 1 (1001) and 1 (2001)
        bright(2, 245, 2);
        bright(3, 399, 2);
        // paths 649, 529 and 457 have the phases 998, 998 and 993
        bright(2, 244, 4);
        bright(3, 199, 4);
        bright(4, 172, 14);
        // path 13300 is 20 whole turns of red, 25 of green and 28 of blue and something more
        bright(2, 5000, 922);
        bright(3, 5000, 188);
        bright(4, 5000, 174);
    }

    /** "4 if the brightness of red is at least 500, plus 2 if that of green is, plus 1 if that of blue is." */
    private static void brightEnoughForAColour() {
        int[][] due = {{2, 306, 500, 4}, {2, 428, 500, 4}, {2, 61, 498, 0}, {2, 794, 498, 0},
            {3, 50, 500, 2}, {3, 349, 500, 2}, {3, 249, 498, 0}, {3, 1046, 498, 0},
            {4, 735, 500, 1}, {4, 130, 500, 1}, {4, 43, 494, 0}, {4, 131, 488, 0}};
        for (int[] a : due) {
            bright(a[0], a[1], a[2]);
            int part = 4 >> (a[0] - 2);
            CHECK.due("part " + part + " of colourOf(" + a[1] + ")", new SoapFilm().colourOf(a[1]) & part, a[3]);
            CHECK.due("part " + part + " of row(0, 5) of " + a[1], Check.filmOf("" + a[1]).row(0, 5) & part, a[3]);
        }
        // the first thicknesses of each colour but black
        int[][] first = {{0, 199}, {1, 44}, {2, 304}, {3, 50}, {4, 150}, {5, 390}, {6, 131}, {7, 62}};
        for (int[] a : first) {
            CHECK.due("colourOf(" + a[1] + ")", new SoapFilm().colourOf(a[1]), a[0]);
            CHECK.due("colour of a row of " + a[1], Check.filmOf("" + a[1]).row(0, 5), a[0]);
        }
    }

    /** "A row whose thickness is below the black limit is black ..: its colour is 0." */
    private static void blackBelowTheLimit() {
        int[][] limits = {{1, 0}, {30, 29}, {31, 30}, {100, 99}, {200, 199}};
        for (int[] a : limits) {
            SoapFilm x = new SoapFilm();
            x.dip(2, a[1], 1);
            x.set(3, a[0]);
            CHECK.due("row below the limit " + a[0], x.row(0, 7), 1);
            CHECK.due("row at the limit " + a[0], x.row(1, 7), 0);
            CHECK.due("black rows at the limit " + a[0], x.count(2), 1);
        }
        SoapFilm x = Check.filmOf("99,100,101");
        CHECK.due("colourOf(100)", x.colourOf(100), 7);
        x.set(3, 100);
        CHECK.due("row(0, 5) below the limit 100", x.row(0, 5), 0);
        CHECK.due("row(0, 3) is as bright as before", x.row(0, 3), 992);
        CHECK.due("row(1, 5) at the limit 100", x.row(1, 5), 7);
        CHECK.due("colourOf(99)", x.colourOf(99), 0);
        CHECK.due("colourOf(100)", x.colourOf(100), 7);
        x.set(3, 101);
        CHECK.due("row(1, 5) below the limit 101", x.row(1, 5), 0);
        CHECK.due("row(2, 5) at the limit 101", x.row(2, 5), 7);
        CHECK.due("colourOf(100)", x.colourOf(100), 0);
        CHECK.due("find(0, 0)", x.find(0, 0), 0);
        CHECK.due("find(7, 0)", x.find(7, 0), 2);
        CHECK.due("ladder(0)", x.ladder(0), 0);
        CHECK.due("ladder(1)", x.ladder(1), 7);
    }

    /** "The order of a row is path / 530." */
    private static void orderAtEachWave() {
        // paths 529, 532; 1058, 1061; 1588, 1590; 2117, 2120; 13246, 13249, 13252; 13300
        int[][] due = {{0, 0}, {199, 0}, {200, 1}, {398, 1}, {399, 2}, {597, 2}, {598, 3}, {796, 3}, {797, 4},
            {4980, 24}, {4981, 24}, {4982, 25}, {5000, 25}};
        for (int[] a : due) {
            SoapFilm x = Check.filmOf("" + a[0]);
            CHECK.due("row(0, 6) of " + a[0], x.row(0, 6), a[1]);
            CHECK.due("count(5) of " + a[0], x.count(5), a[1]);
        }
    }

    /** Promise 10: "number of the row", "0: its thickness .. 7: 1 if it is black, otherwise 0". */
    private static void rowTakes() {
        SoapFilm x = new SoapFilm();
        x.dip(24, 29, 1);
        CHECK.due("row(0, 0)", x.row(0, 0), 29);
        CHECK.due("row(0, 7)", x.row(0, 7), 1);
        CHECK.due("row(1, 7)", x.row(1, 7), 0);
        CHECK.due("row(23, 0)", x.row(23, 0), 52);
        CHECK.due("row(23, 7)", x.row(23, 7), 0);
        // divisions are rounded down: 52 * 266 is 13832
        CHECK.due("row(23, 1)", x.row(23, 1), 138);
        int[] none = {0, 0, 0, 0, 0, 0, 0, 1};
        for (int what = 0; what < none.length; what++) {
            CHECK.due("row(0, " + what + ") of 0", Check.filmOf("0").row(0, what), none[what]);
        }
    }

    /** Promise 10: "INVALID_ARGUMENT if an argument is out of range." */
    private static void rowRefuses() {
        for (int row : new int[] {-1, 24, MIN, MAX}) {
            TWINS.changesNothing("row(" + row + ", 0)", ALL, x -> x.row(row, 0), -1);
        }
        for (int what : new int[] {-1, 8, MIN, MAX}) {
            TWINS.changesNothing("row(0, " + what + ")", ALL, x -> x.row(0, what), -1);
        }
        for (int what = 0; what <= 7; what++) {
            int property = what;
            TWINS.changesNothing("row(0, " + what + ") without a film", NO_FILM, x -> x.row(0, property), -1);
            TWINS.changesNothing("row(3, " + what + ") of three", Films::three, x -> x.row(3, property), -1);
            TWINS.changesNothing("row(1, " + what + ") of one", Films::one, x -> x.row(1, property), -1);
        }
    }

    /** Promise 11: each number of a new object and of one that has seen much. */
    private static void countTakes() {
        int[] plain = {0, 0, 0, 0, 0, -4, 0, -4, -4, 0, 0, 0, 0};
        for (int what = 0; what < plain.length; what++) {
            int number = what;
            TWINS.changesNothing("count(" + what + ")", Films::none, x -> x.count(number), plain[what]);
        }
        int[] first = {20, 1, 10, 30, 5, 12, 3000};
        for (int i = 0; i < 7; i++) {
            int number = i;
            TWINS.changesNothing("count(2" + i + ")", Films::none, x -> x.count(20 + number), 0);
            TWINS.changesNothing("count(3" + i + ")", Films::none, x -> x.count(30 + number), first[i]);
        }
        CHECK.due("count(1) of the last tick", Films.lastTick().count(1), 100000);
        CHECK.due("count(12) of a full text", Films.fullText().count(12), 100);
    }

    /** Promise 11: "INVALID_ARGUMENT if what is out of range", between the ranges too. */
    private static void countRefuses() {
        for (int what : new int[] {-1, 13, 14, 19, 27, 28, 29, 37, 38, 100, MIN, MAX}) {
            TWINS.changesNothing("count(" + what + ")", ALL, x -> x.count(what), -1);
        }
    }

    /** Promise 11: "NOT_FOUND for 5 without a film". */
    private static void countsWithoutAFilm() {
        int[] due = {0, -1, 0, 0, 0, -4};
        for (int what : new int[] {0, 2, 3, 4, 5}) {
            TWINS.changesNothing("count(" + what + ") without a film", NO_FILM, x -> x.count(what), due[what]);
        }
        CHECK.due("count(5) of a film of 0", Check.filmOf("0").count(5), 0);
        CHECK.due("count(4) of a film of 0", Check.filmOf("0").count(4), 1);
        CHECK.due("count(3) of a film of 0", Check.filmOf("0").count(3), 0);
        CHECK.due("count(2) of a film of 0", Check.filmOf("0").count(2), 1);
    }

    /** Promise 11: the numbers of 24 rows. */
    private static void countsOfAFullFilm() {
        SoapFilm x = Check.filmOf("29x24");
        int[] black = {24, 0, 24, 0, 1, 0};
        SoapFilm y = Check.filmOf("100,29,100,29,100,29,100,29,100,29,100,29,100,29,100,29,100,29");
        for (int i = 0; i < 3; i++) {
            y.add(5000);
            y.add(100);
        }
        int[] fringed = {24, 0, 9, 23, 3, 25};
        for (int what = 0; what < black.length; what++) {
            CHECK.due("count(" + what + ") of 24 black rows", x.count(what), black[what]);
            CHECK.due("count(" + what + ") of 23 fringes", y.count(what), fringed[what]);
        }
        SoapFilm all = Check.filmOf("199,44,304,50,150,390,131,62,62,131,390,150,50,304,44,199");
        CHECK.due("all colours", all.count(4), 8);
        CHECK.due("their fringes", all.count(3), 14);
        CHECK.due("their greatest order", all.count(5), 1);
        CHECK.due("the order of the first row alone", Check.filmOf("5000,0x23").count(5), 25);
        CHECK.due("the order of the last row alone", Check.filmOf("0x23,5000").count(5), 25);
    }

    /** Promise 11: "(0 if there was none)", "NOT_FOUND .. for 7 and 8 if there was no burst". */
    private static void countsOfBursts() {
        int[] none = {0, -4, -4, 0};
        int[] thin = {1, 1, 0, 1};
        for (int i = 0; i < none.length; i++) {
            int what = 6 + i;
            for (Supplier<SoapFilm> making : List.<Supplier<SoapFilm>>of(Films::none, Films::three, Films::lastTick)) {
                TWINS.changesNothing("count(" + what + ") without a burst", making, x -> x.count(what), none[i]);
            }
            TWINS.changesNothing("count(" + what + ") of a burst", Films::burst, x -> x.count(what), thin[i]);
            SoapFilm x = Films.burst();
            x.dip(1, 900, 0);
            x.go(5);
            CHECK.due("count(" + what + ") with a new film", x.count(what), thin[i]);
            x = Films.burst();
            x.undo();
            CHECK.due("count(" + what + ") of a burst undone", x.count(what), none[i]);
        }
    }

    /** "A fringe is a pair of neighbouring rows with different colours." */
    private static void fringes() {
        CHECK.due("one row", Films.one().count(3), 0);
        CHECK.due("two of one colour", Check.filmOf("100,101").count(3), 0);
        CHECK.due("two of two colours", Check.filmOf("100,200").count(3), 1);
        CHECK.due("black and dark have one colour", Check.filmOf("29,200").count(3), 0);
        CHECK.due("there and back", Check.filmOf("100,200,100").count(3), 2);
        CHECK.due("first and last row are no neighbours", Check.filmOf("100,200,200").count(3), 1);
    }

    /** Promise 12: "0 for the first one, and so on", "each run of rows with one colour counting once". */
    private static void ladderTakes() {
        SoapFilm x = Check.filmOf("29,200,100,101,200,200,100");
        int[] due = {0, 7, 0, 7, -4};
        for (int i = 0; i < due.length; i++) {
            CHECK.due("ladder(" + i + ")", x.ladder(i), due[i]);
        }
        CHECK.due("ladder(0) of one row", Films.one().ladder(0), 7);
        CHECK.due("ladder(1) of one row", Films.one().ladder(1), -4);
        CHECK.due("ladder(0) of 24 alike", Films.full().ladder(0), 4);
        CHECK.due("ladder(1) of 24 alike", Films.full().ladder(1), -4);
        SoapFilm y = Check.filmOf("100,0,100,0,100,0,100,0,100,0,100,0,100,0,100,0,100,0,100,0,100,0,100,0");
        CHECK.due("ladder(22) of 24", y.ladder(22), 7);
        CHECK.due("ladder(23) of 24", y.ladder(23), 0);
        CHECK.due("ladder(24) of 24", y.ladder(24), -4);
    }

    /** Promise 12: "INVALID_ARGUMENT if index is negative; NOT_FOUND if there are not so many." */
    private static void ladderRefuses() {
        TWINS.changesNothing("ladder(-1)", ALL, x -> x.ladder(-1), -1);
        TWINS.changesNothing("ladder(MIN)", ALL, x -> x.ladder(MIN), -1);
        TWINS.changesNothing("ladder(24)", ALL, x -> x.ladder(24), -4);
        TWINS.changesNothing("ladder(MAX)", ALL, x -> x.ladder(MAX), -4);
        TWINS.changesNothing("ladder(0) without a film", NO_FILM, x -> x.ladder(0), -4);
    }

    /** Promise 13: "colour: 0 to 7", "from: .. the row from which it is looked for downward". */
    private static void findTakes() {
        SoapFilm all = Check.filmOf("199,44,304,50,150,390,131,62");
        int[] colours = {0, 1, 2, 3, 4, 5, 6, 7};
        for (int colour : colours) {
            CHECK.due("find(" + colour + ", 0)", all.find(colour, 0), colour);
            CHECK.due("find(" + colour + ", its row)", all.find(colour, colour), colour);
            CHECK.due("find(" + colour + ", the row below)", all.find(colour, colour + 1), -4);
        }
        SoapFilm x = Check.filmOf("100,200x22,100");
        int[][] due = {{7, 0, 0}, {7, 1, 23}, {7, 23, 23}, {7, 24, -4}, {0, 0, 1}, {0, 22, 22}, {0, 23, -4}};
        for (int[] a : due) {
            CHECK.due("find(" + a[0] + ", " + a[1] + ")", x.find(a[0], a[1]), a[2]);
        }
    }

    /** Promise 13: "INVALID_ARGUMENT if colour is out of range or from is negative; NOT_FOUND ..". */
    private static void findRefuses() {
        for (int colour : new int[] {-1, 8, MIN, MAX}) {
            TWINS.changesNothing("find(" + colour + ", 0)", ALL, x -> x.find(colour, 0), -1);
            TWINS.changesNothing("find(" + colour + ", 24)", ALL, x -> x.find(colour, 24), -1);
        }
        for (int colour = 0; colour <= 7; colour++) {
            int asked = colour;
            TWINS.changesNothing("find(" + colour + ", -1)", ALL, x -> x.find(asked, -1), -1);
            TWINS.changesNothing("find(" + colour + ", MIN)", ALL, x -> x.find(asked, MIN), -1);
            TWINS.changesNothing("find(" + colour + ", 24)", ALL, x -> x.find(asked, 24), -4);
            TWINS.changesNothing("find(" + colour + ", MAX)", ALL, x -> x.find(asked, MAX), -4);
            TWINS.changesNothing("find(" + colour + ", 0) without a film", NO_FILM, x -> x.find(asked, 0), -4);
        }
        TWINS.changesNothing("find(1, 0) of other colours", Films::full, x -> x.find(1, 0), -4);
    }

    /** Promise 14: "thickness: 0 to 5000", "by the black limit as it is". */
    private static void colourOfTakes() {
        for (Supplier<SoapFilm> making : ALL) {
            TWINS.changesNothing("colourOf(0)", making, x -> x.colourOf(0), 0);
            TWINS.changesNothing("colourOf(62)", making, x -> x.colourOf(62), 7);
            TWINS.changesNothing("colourOf(5000)", making, x -> x.colourOf(5000), 4);
        }
        SoapFilm x = new SoapFilm();
        x.set(3, 62);
        CHECK.due("colourOf(62) at the limit", x.colourOf(62), 7);
        x.set(3, 63);
        CHECK.due("colourOf(62) below the limit", x.colourOf(62), 0);
        x.set(3, 200);
        CHECK.due("colourOf(199) below the limit", x.colourOf(199), 0);
        CHECK.due("colourOf(150) below the limit", x.colourOf(150), 0);
        x.undo();
        x.undo();
        CHECK.due("colourOf(62) behind undo", x.colourOf(62), 7);
    }

    /** Promise 14: "INVALID_ARGUMENT if thickness is out of range." */
    private static void colourOfRefuses() {
        for (int thickness : new int[] {-1, 5001, MIN, MAX}) {
            TWINS.changesNothing("colourOf(" + thickness + ")", ALL, x -> x.colourOf(thickness), -1);
        }
    }

    /** Promise 15: "the least thickness of at least a given one", "at most 5000". */
    private static void thicknessForTakes() {
        // the first thickness of each colour, and the last one
        int[] first = {0, 44, 304, 50, 150, 390, 131, 62};
        int[] last = {4831, 4948, 4885, 4931, 5000, 4972, 4712, 4732};
        for (int i = 0; i < first.length; i++) {
            int colour = i;
            SoapFilm x = new SoapFilm();
            CHECK.due("thicknessFor(" + i + ", 0)", x.thicknessFor(i, 0), first[i]);
            CHECK.due("thicknessFor(" + i + ", first)", x.thicknessFor(i, first[i]), first[i]);
            CHECK.due("thicknessFor(" + i + ", last)", x.thicknessFor(i, last[i]), last[i]);
            if (last[i] < 5000) {
                TWINS.changesNothing("thicknessFor(" + i + ", last + 1)", ALL,
                        y -> y.thicknessFor(colour, last[colour] + 1), -4);
                TWINS.changesNothing("thicknessFor(" + i + ", 5000)", ALL, y -> y.thicknessFor(colour, 5000), -4);
            }
        }
        SoapFilm x = new SoapFilm();
        CHECK.due("thicknessFor(0, 29), black", x.thicknessFor(0, 29), 29);
        CHECK.due("thicknessFor(0, 30), dark", x.thicknessFor(0, 30), 30);
        CHECK.due("thicknessFor(7, 130)", x.thicknessFor(7, 130), 130);
        CHECK.due("thicknessFor(7, 131)", x.thicknessFor(7, 131), 648);
        x.set(3, 200);
        CHECK.due("thicknessFor(0, 62), black", x.thicknessFor(0, 62), 62);
        CHECK.due("thicknessFor(7, 0), black", x.thicknessFor(7, 0), 648);
        CHECK.holds("thicknessFor(3, 0), black", x.thicknessFor(3, 0) >= 200);
    }

    /** Promise 15: "INVALID_ARGUMENT if an argument is out of range". */
    private static void thicknessForRefuses() {
        for (int colour : new int[] {-1, 8, MIN, MAX}) {
            TWINS.changesNothing("thicknessFor(" + colour + ", 0)", ALL, x -> x.thicknessFor(colour, 0), -1);
        }
        for (int thickness : new int[] {-1, 5001, MIN, MAX}) {
            TWINS.changesNothing("thicknessFor(4, " + thickness + ")", ALL, x -> x.thicknessFor(4, thickness), -1);
        }
        TWINS.changesNothing("thicknessFor(8, 5001)", ALL, x -> x.thicknessFor(8, 5001), -1);
    }

    /** The looks that are answered change nothing either. */
    private static void looksChangeNothing() {
        for (Supplier<SoapFilm> making : List.<Supplier<SoapFilm>>of(Films::three, Films::longHistory)) {
            SoapFilm told = making.get();
            for (int what = 0; what <= 7; what++) {
                int property = what;
                TWINS.changesNothing("row(1, " + what + ")", making, x -> x.row(1, property), told.row(1, what));
            }
            for (int what = 0; what <= 12; what++) {
                int number = what;
                TWINS.changesNothing("count(" + what + ")", making, x -> x.count(number), told.count(what));
            }
            TWINS.changesNothing("ladder(0)", making, x -> x.ladder(0), told.row(0, 5));
            TWINS.changesNothing("find", making, x -> x.find(told.row(0, 5), 0), 0);
            TWINS.changesNothing("thicknessFor", making, x -> x.thicknessFor(7, 62), 62);
        }
    }
}
