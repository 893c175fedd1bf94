import java.util.List;
import java.util.function.Supplier;

/**
 * The edges that promises 16 and 17 name, a test for each sentence: so now, at the last tick that is
 * looked at and one later, the burst before and then, and that no question changes anything. The
 * numbers behind a text are the settings: slope, drying, running, black limit, least thickness, most
 * black rows, drop.
 *
 * The last of the 1000 ticks cannot be seen with the colour of the top row: that row only loses, by 1
 * or more in a tick or for ever nothing, and no colour is farther away than 779.
 */
public final class QuestionsEdgesTest {
    private static final int MIN = Integer.MIN_VALUE;
    private static final int MAX = Integer.MAX_VALUE;
    private static final List<Supplier<SoapFilm>> ALL = List.of(Films::none, Films::burst, Films::three,
            Films::longHistory, Films::full, Films::fullText, Films::lastTick);
    private static final List<Supplier<SoapFilm>> NO_FILM = List.of(Films::none, Films::burst);
    private static final Check CHECK = new Check();
    private static final Twins TWINS = new Twins(CHECK);

    public static void main(String[] args) {
        untilRefuses();
        untilWithoutAFilm();
        untilSoNow();
        untilTheBurstAtTheLastTick();
        untilBlackRowsAtTheLastTick();
        untilAsManyBlackRowsAsThereMayBe();
        untilBlackRowsOrTheBurst();
        untilTheTopColourOrTheBurst();
        untilTheFarthestColour();
        untilDropsAtTheLastTick();
        untilAHundredDrops();
        untilDropsOrTheBurst();
        untilDropsMore();
        untilBeyondTheLastTick();
        ifGoTakes();
        ifGoRefuses();
        ifGoAndTheBurst();
        ifGoBeyondTheLastTick();
        questionsChangeNothing();
        CHECK.end("QuestionsEdgesTest");
    }

    private static void until(String text, int[] settings, int what, int value, int due) {
        String name = "until(" + what + ", " + value + ") of " + text;
        TWINS.changesNothing(name, () -> Check.filmOf(text, settings), x -> x.until(what, value), due);
    }

    private static int[] settings(int... settings) {
        return settings;
    }

    /** Promise 16: "value: for 0: 0; for 1: 1 to 24; for 2: 0 to 7; for 3: 1 to 100". */
    private static void untilRefuses() {
        int[][] wrong = {{-1, 0}, {-1, 1}, {4, 0}, {4, 1}, {MIN, 0}, {MAX, 0}, {0, -1}, {0, 1}, {0, MIN},
            {0, MAX}, {1, 0}, {1, -1}, {1, 25}, {1, MIN}, {1, MAX}, {2, -1}, {2, 8}, {2, MIN}, {2, MAX},
            {3, 0}, {3, -1}, {3, 101}, {3, MIN}, {3, MAX}};
        for (int[] a : wrong) {
            TWINS.changesNothing("until(" + a[0] + ", " + a[1] + ")", ALL, x -> x.until(a[0], a[1]), -1);
        }
    }

    /** Promise 16: "the film has burst, or there is none" is so, and nothing else comes. */
    private static void untilWithoutAFilm() {
        TWINS.changesNothing("until(0, 0)", NO_FILM, x -> x.until(0, 0), 0);
        for (int value : new int[] {1, 2, 23, 24}) {
            TWINS.changesNothing("until(1, " + value + ")", NO_FILM, x -> x.until(1, value), -4);
        }
        for (int value = 0; value <= 7; value++) {
            int colour = value;
            TWINS.changesNothing("until(2, " + value + ")", NO_FILM, x -> x.until(2, colour), -4);
        }
        for (int value : new int[] {1, 2, 99, 100}) {
            TWINS.changesNothing("until(3, " + value + ")", NO_FILM, x -> x.until(3, value), -4);
        }
        SoapFilm x = Check.filmOf("1000,4", 100, 1, 10, 30, 5, 12, 3000);
        x.pour(1, 996);
        x.go(3);
        x.thin(0, 5000);
        x.go(1);
        x.set(6, 1);
        CHECK.due("a burst film", x.count(0), 0);
        CHECK.holds("a drop that would fall with a film", x.count(22) > 0);
        CHECK.due("until(3, 1) of the drop that stays", x.until(3, 1), -4);
    }

    /** Promise 16: "Returns the number of ticks, 0 if it is so now". */
    private static void untilSoNow() {
        int[] still = settings(0, 0, 0, 30, 0, 24, 3000);
        until("29,29,30", still, 1, 1, 0);
        until("29,29,30", still, 1, 2, 0);
        until("29,29,30", still, 1, 3, -4);
        until("29x24", still, 1, 24, 0);
        until("29x23,30", still, 1, 24, -4);
        int[] first = {199, 44, 304, 50, 150, 390, 131, 62};
        for (int colour = 0; colour <= 7; colour++) {
            until("" + first[colour], still, 2, colour, 0);
            until(first[colour] + ",0", still, 2, (colour + 1) % 8, -4);
        }
        until("29", still, 2, 0, 0);
        // what would burst in the next tick is so now
        until("4,29", settings(0, 0, 0, 30, 5, 1, 3000), 1, 2, 0);
        until("4,29", settings(0, 0, 0, 30, 5, 1, 3000), 2, 0, 0);
        until("4,29", settings(0, 0, 0, 30, 5, 1, 3000), 0, 0, 1);
    }

    /** Promise 16: "NOT_FOUND if it is not so behind 1000 ticks or fewer". */
    private static void untilTheBurstAtTheLastTick() {
        int[] dries = settings(0, 1, 0, 1, 5, 24, 3000);
        until("5", dries, 0, 0, 1);
        until("6", dries, 0, 0, 2);
        until("1003", dries, 0, 0, 999);
        until("1004", dries, 0, 0, 1000);
        until("1005", dries, 0, 0, -4);
        until("2000", dries, 0, 0, -4);
        until("5", settings(0, 0, 0, 1, 5, 24, 3000), 0, 0, -4);
    }

    private static void untilBlackRowsAtTheLastTick() {
        int[] dries = settings(0, 1, 0, 30, 5, 24, 3000);
        until("30", dries, 1, 1, 1);
        until("1028", dries, 1, 1, 999);
        until("1029", dries, 1, 1, 1000);
        until("1030", dries, 1, 1, -4);
        until("1029,1029", dries, 1, 2, 1000);
        until("1029,1030", dries, 1, 2, -4);
    }

    /** "At least value rows are black": 24 of them, and more than asked for. */
    private static void untilAsManyBlackRowsAsThereMayBe() {
        until("30x24", settings(0, 1, 0, 30, 5, 24, 3000), 1, 24, 1);
        until("30x24", settings(0, 1, 0, 30, 5, 24, 3000), 1, 1, 1);
        until("30x23", settings(0, 1, 0, 30, 5, 24, 3000), 1, 24, -4);
        until("30x23,31", settings(0, 1, 0, 30, 5, 24, 3000), 1, 24, 2);
        until("30x23,31", settings(0, 1, 0, 30, 5, 24, 3000), 1, 23, 1);
    }

    /** "NOT_FOUND if .. the film bursts before (for 1 and 2)." */
    private static void untilBlackRowsOrTheBurst() {
        int[] two = settings(0, 1, 0, 30, 5, 2, 3000);
        until("30x2", two, 1, 2, 1);
        until("30x3", two, 1, 1, -4);
        until("30x3", two, 1, 3, -4);
        until("30x2,31", two, 1, 3, -4);
        until("30x2,31", two, 0, 0, 2);
        until("50,6", settings(0, 1, 0, 30, 5, 24, 3000), 1, 2, -4);
        until("30,6", settings(0, 1, 0, 30, 5, 24, 3000), 1, 2, 1);
        until("30,5", settings(0, 1, 0, 30, 5, 24, 3000), 1, 2, -4);
    }

    private static void untilTheTopColourOrTheBurst() {
        // 62 is the last thickness of the colour 7 on the way down, 61 has the colour 3
        until("65,9", settings(0, 1, 0, 30, 5, 24, 3000), 2, 3, 4);
        until("65,8", settings(0, 1, 0, 30, 5, 24, 3000), 2, 3, -4);
        until("65,8", settings(0, 1, 0, 30, 5, 24, 3000), 0, 0, 4);
        until("65,7", settings(0, 1, 0, 30, 5, 24, 3000), 2, 3, -4);
        // a burst film has no colour, not even black
        until("62", settings(0, 1, 0, 62, 62, 24, 3000), 2, 0, -4);
        until("62", settings(0, 1, 0, 62, 61, 24, 3000), 2, 0, 1);
        until("62,62", settings(0, 1, 0, 62, 5, 1, 3000), 2, 0, -4);
        until("62,63", settings(0, 1, 0, 62, 5, 1, 3000), 2, 0, 1);
    }

    private static void untilTheFarthestColour() {
        // no thickness from 3416 to 4193 has the colour 1
        until("4193", settings(0, 1, 0, 1, 0, 24, 3000), 2, 1, 778);
        until("4194", settings(0, 1, 0, 1, 0, 24, 3000), 2, 1, 0);
        until("303", settings(0, 1, 0, 1, 0, 24, 3000), 2, 2, -4);
        until("303", settings(0, 0, 0, 1, 0, 24, 3000), 2, 7, -4);
    }

    private static void untilDropsAtTheLastTick() {
        until("0,5000", settings(0, 0, 4, 30, 0, 24, 3996), 3, 1, 999);
        until("0,5000", settings(0, 0, 4, 30, 0, 24, 4000), 3, 1, 1000);
        until("0,5000", settings(0, 0, 4, 30, 0, 24, 4001), 3, 1, -4);
        until("0,5000", settings(0, 0, 4, 30, 0, 24, 2000), 3, 2, 1000);
        until("0,5000", settings(0, 0, 4, 30, 0, 24, 2001), 3, 2, -4);
    }

    /** "value drops more have fallen", "for 3: 1 to 100". */
    private static void untilAHundredDrops() {
        until("0,5000", settings(0, 0, 5, 1, 0, 24, 50), 3, 100, 1000);
        until("0,5000", settings(0, 0, 5, 1, 0, 24, 51), 3, 90, 990);
        until("0,5000", settings(0, 0, 5, 1, 0, 24, 51), 3, 100, -4);
        until("0,5000", settings(0, 0, 500, 1, 0, 24, 1), 3, 10, 10);
        until("0,5000", settings(0, 0, 500, 1, 0, 24, 1), 3, 11, -4);
    }

    /** For 3 the burst is only the end of the drops: that of its tick falls ahead of it. */
    private static void untilDropsOrTheBurst() {
        until("0,5000", settings(0, 0, 5, 1, 1, 24, 5), 3, 1, 1);
        until("0,5000", settings(0, 0, 5, 1, 1, 24, 5), 3, 2, -4);
        until("0,5000", settings(0, 0, 5, 1, 1, 24, 6), 3, 1, -4);
        until("0,5000", settings(0, 0, 5, 1, 1, 24, 5), 0, 0, 1);
    }

    private static void untilDropsMore() {
        SoapFilm x = Check.filmOf("0,5000", 0, 0, 5, 1, 0, 24, 50);
        x.go(25);
        CHECK.due("drops that have fallen", x.count(10), 2);
        CHECK.due("until(3, 1)", x.until(3, 1), 5);
        CHECK.due("until(3, 2)", x.until(3, 2), 15);
        x.go(4);
        CHECK.due("until(3, 1) a tick before", x.until(3, 1), 1);
        x.go(1);
        CHECK.due("until(3, 1) in the tick of a drop", x.until(3, 1), 10);
        CHECK.due("until(3, 97)", x.until(3, 97), 970);
        CHECK.due("until(3, 98)", x.until(3, 98), -4);
    }

    /** "(also beyond the tick 100000)". */
    private static void untilBeyondTheLastTick() {
        SoapFilm x = Films.lastTick();
        x.dip(2, 1004, 1);
        x.set(0, 0);
        x.set(2, 0);
        CHECK.due("go(1)", x.go(1), -3);
        CHECK.due("until(0, 0)", x.until(0, 0), 1000);
        CHECK.due("until(1, 1)", x.until(1, 1), 975);
        CHECK.due("until(1, 2)", x.until(1, 2), 976);
        CHECK.due("until(2, 2)", x.until(2, 2), 270);
        x.set(0, 100);
        x.set(6, 50);
        CHECK.due("until(3, 1)", x.until(3, 1), 1);
        CHECK.due("until(3, 3)", x.until(3, 3), 3);
        CHECK.due("the tick", x.count(1), 100000);
        CHECK.due("drops", x.count(10), 0);
    }

    /** Promise 17: "ticks: 1 to 1000". */
    private static void ifGoTakes() {
        Supplier<SoapFilm> dries = () -> Check.filmOf("5000,1500x23", 0, 1, 0, 1, 5, 24, 3000);
        TWINS.changesNothing("ifGo(0, 1)", dries, x -> x.ifGo(0, 1), 4999);
        TWINS.changesNothing("ifGo(0, 1000)", dries, x -> x.ifGo(0, 1000), 4000);
        TWINS.changesNothing("ifGo(23, 1)", dries, x -> x.ifGo(23, 1), 1499);
        TWINS.changesNothing("ifGo(23, 1000)", dries, x -> x.ifGo(23, 1000), 500);
        Supplier<SoapFilm> still = () -> Check.filmOf("0", 0, 1, 0, 1, 0, 24, 3000);
        TWINS.changesNothing("ifGo(0, 1000) of 0", still, x -> x.ifGo(0, 1000), 0);
    }

    /** Promise 17: "INVALID_ARGUMENT if an argument is out of range", rather than NOT_FOUND. */
    private static void ifGoRefuses() {
        for (int row : new int[] {-1, 24, MIN, MAX}) {
            TWINS.changesNothing("ifGo(" + row + ", 1)", ALL, x -> x.ifGo(row, 1), -1);
            TWINS.changesNothing("ifGo(" + row + ", 1000)", ALL, x -> x.ifGo(row, 1000), -1);
        }
        for (int ticks : new int[] {0, -1, 1001, MIN, MAX}) {
            TWINS.changesNothing("ifGo(0, " + ticks + ")", ALL, x -> x.ifGo(0, ticks), -1);
        }
        TWINS.changesNothing("ifGo(0, 1) without a film", NO_FILM, x -> x.ifGo(0, 1), -1);
        TWINS.changesNothing("ifGo(3, 1) of three", Films::three, x -> x.ifGo(3, 1), -1);
        TWINS.changesNothing("ifGo(3, 1000) of three that burst", Films::three, x -> x.ifGo(3, 1000), -1);
        TWINS.changesNothing("ifGo(0, 1001) of three that burst", Films::three, x -> x.ifGo(0, 1001), -1);
    }

    /** Promise 17: "NOT_FOUND if the film bursts before or then." */
    private static void ifGoAndTheBurst() {
        Supplier<SoapFilm> thin = () -> Check.filmOf("100,8", 0, 1, 0, 1, 5, 24, 3000);
        int[][] due = {{0, 1, 99}, {0, 3, 97}, {1, 3, 5}, {0, 4, -4}, {1, 4, -4}, {0, 5, -4}, {1, 5, -4},
            {0, 1000, -4}};
        for (int[] a : due) {
            TWINS.changesNothing("ifGo(" + a[0] + ", " + a[1] + ")", thin, x -> x.ifGo(a[0], a[1]), a[2]);
        }
        Supplier<SoapFilm> black = () -> Check.filmOf("31x3", 0, 1, 0, 30, 5, 2, 3000);
        TWINS.changesNothing("ifGo(2, 1)", black, x -> x.ifGo(2, 1), 30);
        TWINS.changesNothing("ifGo(2, 2), too black then", black, x -> x.ifGo(2, 2), -4);
        Supplier<SoapFilm> last = () -> Check.filmOf("1004", 0, 1, 0, 1, 5, 24, 3000);
        TWINS.changesNothing("ifGo(0, 999)", last, x -> x.ifGo(0, 999), 5);
        TWINS.changesNothing("ifGo(0, 1000)", last, x -> x.ifGo(0, 1000), -4);
        Supplier<SoapFilm> later = () -> Check.filmOf("1005", 0, 1, 0, 1, 5, 24, 3000);
        TWINS.changesNothing("ifGo(0, 1000), not yet", later, x -> x.ifGo(0, 1000), 5);
    }

    /** "If nothing else is done": the tick 100000 is no end for a question. */
    private static void ifGoBeyondTheLastTick() {
        SoapFilm x = Films.lastTick();
        x.dip(2, 1500, 0);
        x.set(0, 0);
        CHECK.due("ifGo(0, 1)", x.ifGo(0, 1), 1499);
        CHECK.due("ifGo(1, 1000)", x.ifGo(1, 1000), 500);
        CHECK.due("the tick", x.count(1), 100000);
        CHECK.rows("the film", x, 1500, 1500);
    }

    /** "---- questions (nothing changes)". */
    private static void questionsChangeNothing() {
        for (Supplier<SoapFilm> making : ALL) {
            SoapFilm told = making.get();
            int[][] asked = {{0, 0}, {1, 1}, {1, 24}, {2, 0}, {2, 7}, {3, 1}, {3, 100}};
            for (int[] a : asked) {
                TWINS.changesNothing("until(" + a[0] + ", " + a[1] + ")", making,
                        x -> x.until(a[0], a[1]), told.until(a[0], a[1]));
            }
            TWINS.changesNothing("ifGo(0, 1)", making, x -> x.ifGo(0, 1), told.ifGo(0, 1));
            TWINS.changesNothing("ifGo(0, 1000)", making, x -> x.ifGo(0, 1000), told.ifGo(0, 1000));
        }
    }
}
