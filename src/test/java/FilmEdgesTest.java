import java.util.List;
import java.util.function.Supplier;

/**
 * The edges that promises 1 to 9 and their terms name (film, settings, history, errors), a test for
 * each sentence: the last that is taken and the first that is refused, and that a refused call has
 * changed nothing.
 */
public final class FilmEdgesTest {
    private static final int MIN = Integer.MIN_VALUE;
    private static final int MAX = Integer.MAX_VALUE;
    private static final int[] FIRST = {20, 1, 10, 30, 5, 12, 3000};
    private static final int[] LEAST = {0, 0, 0, 1, 0, 1, 1};
    private static final int[] GREATEST = {100, 50, 500, 200, 100, 24, 100000};
    private static final List<Supplier<SoapFilm>> ALL = List.of(Films::none, Films::burst, Films::three,
            Films::longHistory, Films::full, Films::fullText, Films::lastTick);
    private static final Check CHECK = new Check();
    private static final Twins TWINS = new Twins(CHECK);

    public static void main(String[] args) {
        newObject();
        filmOfAtLeastOneAndAtMost24Rows();
        rowsFromTheTop();
        burstFilmHasNoRows();
        setTakes();
        setRefuses();
        dipTakes();
        dipRefuses();
        dipTakesTheFilmThatIsThereAway();
        pourTakes();
        pourRefuses();
        addTakes();
        addRefuses();
        thinTakes();
        thinRefuses();
        cutTakes();
        cutRefuses();
        goTakes();
        goRefuses();
        goToTheLastTick();
        goAnswersTicksWithAFilm();
        undoOfNothing();
        undoOfMoreThanIsKept();
        sixthStateDropsTheOldest();
        everyChangeIsRecorded();
        onlyChangesAreRecorded();
        worstErrorFirst();
        accountsOfManyFilms();
        CHECK.end("FilmEdgesTest");
    }

    /** "Creates a frame without a film, with an empty drop." "At first there is no film." */
    private static void newObject() {
        int[] numbers = {0, 0, 0, 0, 0, -4, 0, -4, -4, 0, 0, 0, 0};
        for (int what = 0; what < numbers.length; what++) {
            CHECK.due("new: count(" + what + ")", new SoapFilm().count(what), numbers[what]);
        }
        CHECK.accounts("new", new SoapFilm(), 0, 0, 0, 0, 0, 0, 0);
        CHECK.due("new: row(0, 0)", new SoapFilm().row(0, 0), -1);
        CHECK.due("new: until(0, 0)", new SoapFilm().until(0, 0), 0);
        SoapFilm x = new SoapFilm();
        x.set(0, 0);
        x.set(6, 1);
        x.dip(1, 5000, 0);
        x.go(1);
        CHECK.due("nothing falls from an empty drop", x.count(10), 0);
        SoapFilm one = new SoapFilm();
        SoapFilm other = new SoapFilm();
        one.dip(3, 100, 0);
        one.set(0, 1);
        one.type('5');
        CHECK.due("another object has no film", other.count(0), 0);
        CHECK.due("another object has its first slope", other.count(30), 20);
        CHECK.due("another object has no text", other.count(12), 0);
    }

    /** "The film has rows, at least 1 and at most 24." */
    private static void filmOfAtLeastOneAndAtMost24Rows() {
        SoapFilm x = new SoapFilm();
        CHECK.due("dip(1, 7, 0)", x.dip(1, 7, 0), 7);
        CHECK.due("cut() of one row", x.cut(), -2);
        CHECK.due("count(0)", x.count(0), 1);
        for (int rows = 2; rows <= 24; rows++) {
            CHECK.due("add(7)", x.add(7), rows);
        }
        CHECK.due("add(7) to 24 rows", x.add(7), -3);
        CHECK.due("count(0)", x.count(0), 24);
        CHECK.due("row(23, 0)", x.row(23, 0), 7);
        CHECK.due("row(24, 0)", x.row(24, 0), -1);
        for (int rows = 23; rows >= 1; rows--) {
            CHECK.due("cut()", x.cut(), 7);
            CHECK.due("count(0)", x.count(0), rows);
        }
        CHECK.due("cut() of one row", x.cut(), -2);
    }

    /** "Numbered from 0 from the top." */
    private static void rowsFromTheTop() {
        SoapFilm x = new SoapFilm();
        x.dip(24, 10, 5);
        for (int i = 0; i < 24; i++) {
            CHECK.due("row(" + i + ", 0)", x.row(i, 0), 10 + 5 * i);
        }
        x.pour(0, 1);
        x.thin(23, 1);
        CHECK.due("the top row", x.row(0, 0), 11);
        CHECK.due("the last row", x.row(23, 0), 124);
    }

    /** "A burst film has no rows": it is like no film, with NOT_POSSIBLE for what needs one. */
    private static void burstFilmHasNoRows() {
        CHECK.due("count(0)", Films.burst().count(0), 0);
        CHECK.due("count(21)", Films.burst().count(21), 0);
        TWINS.changesNothing("row(0, 0)", Films::burst, x -> x.row(0, 0), -1);
        TWINS.changesNothing("row(1, 0)", Films::burst, x -> x.row(1, 0), -1);
        TWINS.changesNothing("pour(0, 1)", Films::burst, x -> x.pour(0, 1), -1);
        TWINS.changesNothing("thin(0, 1)", Films::burst, x -> x.thin(0, 1), -1);
        TWINS.changesNothing("add(0)", Films::burst, x -> x.add(0), -2);
        TWINS.changesNothing("cut()", Films::burst, x -> x.cut(), -2);
        TWINS.changesNothing("ladder(0)", Films::burst, x -> x.ladder(0), -4);
        TWINS.changesNothing("find(0, 0)", Films::burst, x -> x.find(0, 0), -4);
        TWINS.changesNothing("count(5)", Films::burst, x -> x.count(5), -4);
        TWINS.changesNothing("ifGo(0, 1)", Films::burst, x -> x.ifGo(0, 1), -1);
        TWINS.changesNothing("until(0, 0)", Films::burst, x -> x.until(0, 0), 0);
        TWINS.isRecorded("dip(2, 3, 4) behind a burst", Films::burst, x -> x.dip(2, 3, 4), 10);
        SoapFilm x = Films.burst();
        x.dip(1, 40, 0);
        CHECK.due("nothing is left of the burst film", x.count(0), 1);
        CHECK.due("row(1, 0)", x.row(1, 0), -1);
        CHECK.due("add(9) to the new film", x.add(9), 2);
        CHECK.due("row(1, 0)", x.row(1, 0), 9);
    }

    /** Promise 2: "a value in its range", its first and its last one; "Returns the previous value". */
    private static void setTakes() {
        for (int i = 0; i < FIRST.length; i++) {
            int what = i;
            SoapFilm x = new SoapFilm();
            CHECK.due("set(" + i + ", least)", x.set(i, LEAST[i]), FIRST[i]);
            CHECK.due("the least value", x.count(30 + i), LEAST[i]);
            CHECK.due("set(" + i + ", greatest)", x.set(i, GREATEST[i]), LEAST[i]);
            CHECK.due("the greatest value", x.count(30 + i), GREATEST[i]);
            for (int other = 0; other < FIRST.length; other++) {
                CHECK.due("setting " + other, x.count(30 + other), other == i ? GREATEST[i] : FIRST[other]);
            }
            TWINS.isRecorded("set(" + i + ", least)", Films::three, y -> y.set(what, LEAST[what]), FIRST[i]);
            TWINS.isRecorded("set(" + i + ", the same)", Films::three, y -> y.set(what, FIRST[what]), FIRST[i]);
            TWINS.isRecorded("set(" + i + ", greatest)", Films::burst, y -> y.set(what, GREATEST[what]), FIRST[i]);
        }
    }

    /** Promise 2: "INVALID_ARGUMENT if an argument is out of range." */
    private static void setRefuses() {
        for (int i = 0; i < FIRST.length; i++) {
            for (int value : new int[] {LEAST[i] - 1, GREATEST[i] + 1, MIN, MAX}) {
                int what = i;
                TWINS.changesNothing("set(" + i + ", " + value + ")", ALL, x -> x.set(what, value), -1);
            }
        }
        for (int what : new int[] {-1, 7, 30, MIN, MAX}) {
            TWINS.changesNothing("set(" + what + ", 1)", ALL, x -> x.set(what, 1), -1);
        }
    }

    /** Promise 3: "rows: 1 to 24", "top: 0 to 5000", "more: 0 to 500". */
    private static void dipTakes() {
        for (Supplier<SoapFilm> making : ALL) {
            TWINS.isRecorded("dip(1, 0, 0)", making, x -> x.dip(1, 0, 0), 0);
            TWINS.isRecorded("dip(24, 0, 0)", making, x -> x.dip(24, 0, 0), 0);
            TWINS.isRecorded("dip(1, 5000, 0)", making, x -> x.dip(1, 5000, 0), 5000);
            TWINS.isRecorded("dip(24, 5000, 0)", making, x -> x.dip(24, 5000, 0), 120000);
            TWINS.isRecorded("dip(1, 5000, 500)", making, x -> x.dip(1, 5000, 500), 5000);
            TWINS.isRecorded("dip(11, 0, 500)", making, x -> x.dip(11, 0, 500), 27500);
            TWINS.isRecorded("dip(24, 9, 217)", making, x -> x.dip(24, 9, 217), 60108);
            TWINS.isRecorded("dip(2, 4999, 1)", making, x -> x.dip(2, 4999, 1), 9999);
        }
        SoapFilm x = new SoapFilm();
        x.dip(11, 0, 500);
        CHECK.due("the last row, thick by 5000", x.row(10, 0), 5000);
        x.dip(24, 9, 217);
        CHECK.due("the last of 24 rows, thick by 5000", x.row(23, 0), 5000);
    }

    /** Promise 3: out of range, "or the last row would be thicker than 5000". */
    private static void dipRefuses() {
        int[][] wrong = {{0, 100, 1}, {25, 100, 1}, {2, -1, 1}, {2, 5001, 0}, {1, 5001, 0}, {2, 100, -1},
            {2, 100, 501}, {1, 100, -1}, {1, 100, 501}, {0, 0, 0}, {25, 0, 0}, {11, 1, 500}, {12, 0, 500},
            {2, 5000, 1}, {2, 4501, 500}, {24, 10, 217}, {24, 0, 500}, {24, 5000, 500}, {MIN, 1, 1},
            {MAX, 1, 1}, {1, MIN, 1}, {1, MAX, 1}, {1, 1, MIN}, {1, 1, MAX}, {24, MAX, MAX}, {MIN, MIN, MIN}};
        for (int[] a : wrong) {
            String name = "dip(" + a[0] + ", " + a[1] + ", " + a[2] + ")";
            TWINS.changesNothing(name, ALL, x -> x.dip(a[0], a[1], a[2]), -1);
        }
    }

    /** Promise 3: "a new film comes; one that is there is taken away first". */
    private static void dipTakesTheFilmThatIsThereAway() {
        SoapFilm x = new SoapFilm();
        x.dip(3, 10, 1);
        CHECK.accounts("no film was there", x, 33, 33, 0, 0, 0, 0, 0);
        CHECK.due("dip(2, 7, 0)", x.dip(2, 7, 0), 14);
        CHECK.rows("the new film alone", x, 7, 7);
        CHECK.accounts("a film was there", x, 47, 14, 0, 0, 0, 0, 33);
        x = Films.burst();
        CHECK.accounts("a burst film", x, 104, 0, 0, 0, 2, 102, 0);
        x.dip(1, 10, 0);
        CHECK.accounts("a burst film is not there", x, 114, 10, 0, 0, 2, 102, 0);
        x = Films.full();
        x.dip(1, 5000, 0);
        CHECK.rows("in place of a full film", x, 5000);
        CHECK.accounts("in place of a full film", x, 125000, 5000, 0, 0, 0, 0, 120000);
    }

    /** Promise 4: "amount: 1 to 5000", "row: number of the row". */
    private static void pourTakes() {
        TWINS.isRecorded("pour(0, 1)", Films::three, x -> x.pour(0, 1), 101);
        TWINS.isRecorded("pour(2, 4700)", Films::three, x -> x.pour(2, 4700), 5000);
        TWINS.isRecorded("pour(1, 5)", Films::longHistory, x -> x.pour(1, 5), Films.longHistory().row(1, 0) + 5);
        TWINS.isRecorded("pour(0, 5000)", () -> Check.filmOf("0"), x -> x.pour(0, 5000), 5000);
        TWINS.isRecorded("pour(23, 1)", () -> Check.filmOf("4999x24"), x -> x.pour(23, 1), 5000);
        SoapFilm x = Films.three();
        x.pour(2, 4700);
        CHECK.rows("poured onto the last row", x, 100, 200, 5000);
        CHECK.accounts("poured", x, 5300, 5300, 0, 0, 0, 0, 0);
    }

    /** Promise 4: "INVALID_ARGUMENT ..; LIMIT_REACHED if it would be thicker than 5000." */
    private static void pourRefuses() {
        for (int row : new int[] {-1, 24, MIN, MAX}) {
            TWINS.changesNothing("pour(" + row + ", 1)", ALL, x -> x.pour(row, 1), -1);
        }
        for (int amount : new int[] {0, -1, 5001, MIN, MAX}) {
            TWINS.changesNothing("pour(0, " + amount + ")", ALL, x -> x.pour(0, amount), -1);
        }
        TWINS.changesNothing("pour(0, 1) without a film", Films::none, x -> x.pour(0, 1), -1);
        TWINS.changesNothing("pour(3, 1) of three", Films::three, x -> x.pour(3, 1), -1);
        TWINS.changesNothing("pour(1, 1) of one", Films::one, x -> x.pour(1, 1), -1);
        TWINS.changesNothing("pour(2, 4701)", Films::three, x -> x.pour(2, 4701), -3);
        TWINS.changesNothing("pour(0, 5000) of 100", Films::three, x -> x.pour(0, 5000), -3);
        TWINS.changesNothing("pour(0, 1) of 5000", Films::full, x -> x.pour(0, 1), -3);
        TWINS.changesNothing("pour(23, 5000) of 5000", Films::full, x -> x.pour(23, 5000), -3);
        TWINS.changesNothing("pour(0, 5000) of 1", () -> Check.filmOf("1"), x -> x.pour(0, 5000), -3);
    }

    /** Promise 5: "thickness: 0 to 5000". */
    private static void addTakes() {
        TWINS.isRecorded("add(0)", Films::one, x -> x.add(0), 2);
        TWINS.isRecorded("add(5000)", Films::three, x -> x.add(5000), 4);
        TWINS.isRecorded("add(1), the 24th", () -> Check.filmOf("5000x23"), x -> x.add(1), 24);
        SoapFilm x = Films.three();
        x.add(5000);
        x.add(0);
        CHECK.rows("added at the bottom", x, 100, 200, 300, 5000, 0);
        CHECK.accounts("added", x, 5600, 5600, 0, 0, 0, 0, 0);
    }

    /** Promise 5: out of range; "NOT_POSSIBLE if there is no film; LIMIT_REACHED if there are 24". */
    private static void addRefuses() {
        for (int thickness : new int[] {-1, 5001, MIN, MAX}) {
            TWINS.changesNothing("add(" + thickness + ")", ALL, x -> x.add(thickness), -1);
        }
        for (int thickness : new int[] {0, 1, 5000}) {
            TWINS.changesNothing("add(" + thickness + ")", Films::none, x -> x.add(thickness), -2);
            TWINS.changesNothing("add(" + thickness + ")", Films::burst, x -> x.add(thickness), -2);
            TWINS.changesNothing("add(" + thickness + ")", Films::full, x -> x.add(thickness), -3);
        }
        SoapFilm x = Films.full();
        x.cut();
        CHECK.due("add(5) when there are 24 no more", x.add(5), 24);
    }

    /** Promise 6: "Returns what is taken, at most its thickness". */
    private static void thinTakes() {
        TWINS.isRecorded("thin(0, 1)", Films::three, x -> x.thin(0, 1), 1);
        TWINS.isRecorded("thin(1, 199)", Films::three, x -> x.thin(1, 199), 199);
        TWINS.isRecorded("thin(1, 200)", Films::three, x -> x.thin(1, 200), 200);
        TWINS.isRecorded("thin(1, 201)", Films::three, x -> x.thin(1, 201), 200);
        TWINS.isRecorded("thin(2, 5000)", Films::three, x -> x.thin(2, 5000), 300);
        TWINS.isRecorded("thin(23, 5000)", Films::full, x -> x.thin(23, 5000), 5000);
        TWINS.isRecorded("thin(0, 1) of 0", () -> Check.filmOf("0"), x -> x.thin(0, 1), 0);
        SoapFilm x = Films.three();
        x.thin(0, 99);
        x.thin(1, 200);
        x.thin(2, 301);
        CHECK.rows("thinned", x, 1, 0, 0);
        CHECK.accounts("thinned", x, 600, 1, 0, 0, 0, 0, 599);
    }

    /** Promise 6: "INVALID_ARGUMENT if an argument is out of range." */
    private static void thinRefuses() {
        for (int row : new int[] {-1, 24, MIN, MAX}) {
            TWINS.changesNothing("thin(" + row + ", 1)", ALL, x -> x.thin(row, 1), -1);
        }
        for (int amount : new int[] {0, -1, 5001, MIN, MAX}) {
            TWINS.changesNothing("thin(0, " + amount + ")", ALL, x -> x.thin(0, amount), -1);
        }
        TWINS.changesNothing("thin(0, 1) without a film", Films::none, x -> x.thin(0, 1), -1);
        TWINS.changesNothing("thin(3, 1) of three", Films::three, x -> x.thin(3, 1), -1);
        TWINS.changesNothing("thin(1, 1) of one", Films::one, x -> x.thin(1, 1), -1);
    }

    /** Promise 7: "Cuts the last row off. Returns its thickness". */
    private static void cutTakes() {
        TWINS.isRecorded("cut() of two rows", () -> Check.filmOf("100,200"), x -> x.cut(), 200);
        TWINS.isRecorded("cut() of 24 rows", Films::full, x -> x.cut(), 5000);
        TWINS.isRecorded("cut() of a row thick by 0", () -> Check.filmOf("100,0"), x -> x.cut(), 0);
        SoapFilm x = Check.filmOf("100,200");
        x.cut();
        CHECK.rows("cut", x, 100);
        CHECK.accounts("cut", x, 300, 100, 0, 0, 0, 0, 200);
        CHECK.due("row(1, 0) of the row cut off", x.row(1, 0), -1);
        CHECK.due("add(3)", x.add(3), 2);
        CHECK.rows("nothing is left of the row cut off", x, 100, 3);
    }

    /** Promise 7: "NOT_POSSIBLE if the film has not at least 2 rows." */
    private static void cutRefuses() {
        TWINS.changesNothing("cut() without a film", Films::none, x -> x.cut(), -2);
        TWINS.changesNothing("cut() of a burst film", Films::burst, x -> x.cut(), -2);
        TWINS.changesNothing("cut() of one row", Films::one, x -> x.cut(), -2);
    }

    /** Promise 8: "ticks: 1 to 1000". "They go by without a film, too." */
    private static void goTakes() {
        TWINS.isRecorded("go(1)", Films::three, x -> x.go(1), 1);
        TWINS.isRecorded("go(1)", Films::longHistory, x -> x.go(1), 1);
        TWINS.isRecorded("go(1) without a film", Films::none, x -> x.go(1), 0);
        TWINS.isRecorded("go(1000) without a film", Films::none, x -> x.go(1000), 0);
        TWINS.isRecorded("go(1000) of a burst film", Films::burst, x -> x.go(1000), 0);
        SoapFilm x = new SoapFilm();
        x.go(1);
        CHECK.due("count(1)", x.count(1), 1);
        x.go(1000);
        CHECK.due("count(1)", x.count(1), 1001);
    }

    /** Promise 8: "INVALID_ARGUMENT if ticks is out of range". */
    private static void goRefuses() {
        for (int ticks : new int[] {0, -1, 1001, 100000, MIN, MAX}) {
            TWINS.changesNothing("go(" + ticks + ")", ALL, x -> x.go(ticks), -1);
        }
    }

    /** Promise 8: "LIMIT_REACHED if the tick would be greater than 100000." */
    private static void goToTheLastTick() {
        Supplier<SoapFilm> nearly = () -> {
            SoapFilm x = new SoapFilm();
            for (int i = 0; i < 99; i++) {
                x.go(1000);
            }
            Check.typeAll(x, "5000x2");
            x.read();
            x.set(0, 0);
            x.go(1);
            return x;
        };
        TWINS.changesNothing("go(1000) to the tick 100001", nearly, x -> x.go(1000), -3);
        TWINS.isRecorded("go(999) to the tick 100000", nearly, x -> x.go(999), 999);
        TWINS.changesNothing("go(1) to the tick 100001", Films::lastTick, x -> x.go(1), -3);
        TWINS.changesNothing("go(1000) to the tick 101000", Films::lastTick, x -> x.go(1000), -3);
        SoapFilm x = nearly.get();
        x.go(999);
        CHECK.due("count(1)", x.count(1), 100000);
        CHECK.due("go(1)", x.go(1), -3);
        x.undo();
        CHECK.due("count(1) behind undo", x.count(1), 99001);
        CHECK.due("go(999) behind undo", x.go(999), 999);
        SoapFilm none = new SoapFilm();
        for (int i = 0; i < 100; i++) {
            none.go(1000);
        }
        CHECK.due("count(1) without a film", none.count(1), 100000);
        CHECK.due("go(1) without a film", none.go(1), -3);
        CHECK.due("dip(1, 1, 0) at the last tick", none.dip(1, 1, 0), 1);
    }

    /** Promise 8: "Returns how many of them went by with a film at their beginning". */
    private static void goAnswersTicksWithAFilm() {
        // one row that loses 1 in a tick, and bursts when thinner than 5
        for (int ticks = 1; ticks <= 4; ticks++) {
            SoapFilm x = Check.filmOf("7", 0, 1, 0, 1, 5, 24, 100000);
            CHECK.due("go(" + ticks + ") of 7", x.go(ticks), Math.min(ticks, 3));
            CHECK.due("count(1)", x.count(1), ticks);
            CHECK.due("count(0)", x.count(0), ticks < 3 ? 1 : 0);
        }
        SoapFilm x = Check.filmOf("5", 0, 1, 0, 1, 5, 24, 100000);
        CHECK.due("go(1000) that bursts in its first tick", x.go(1000), 1);
        x = Check.filmOf("1004", 0, 1, 0, 1, 5, 24, 100000);
        CHECK.due("go(1000) that bursts in its last tick", x.go(1000), 1000);
        CHECK.due("bursts", x.count(9), 1);
        CHECK.due("ticks ahead of it", x.count(8), 999);
        x = Check.filmOf("1005", 0, 1, 0, 1, 5, 24, 100000);
        CHECK.due("go(1000) that does not burst", x.go(1000), 1000);
        CHECK.due("bursts", x.count(9), 0);
    }

    /** Promise 9: "NOT_POSSIBLE if it is empty." */
    private static void undoOfNothing() {
        TWINS.changesNothing("undo() of a new object", Films::none, x -> x.undo(), -2);
        Supplier<SoapFilm> refused = () -> {
            SoapFilm x = new SoapFilm();
            x.set(0, 101);
            x.dip(0, 0, 0);
            x.add(1);
            x.type('5');
            return x;
        };
        TWINS.changesNothing("undo() behind refused calls", refused, x -> x.undo(), -2);
        Supplier<SoapFilm> undone = () -> {
            SoapFilm x = new SoapFilm();
            x.dip(3, 5, 5);
            x.undo();
            return x;
        };
        TWINS.changesNothing("undo() of undo", undone, x -> x.undo(), -2);
        CHECK.due("a film that was undone", undone.get().count(0), 0);
    }

    /** Promise 9: as many as are kept are taken back, "the number of states that are left". */
    private static void undoOfMoreThanIsKept() {
        SoapFilm x = new SoapFilm();
        for (int i = 1; i <= 7; i++) {
            x.dip(i, 100, i);
        }
        for (int i = 6; i >= 2; i--) {
            CHECK.due("undo()", x.undo(), i - 2);
            CHECK.due("rows behind undo", x.count(0), i);
            CHECK.due("last row behind undo", x.row(i - 1, 0), 100 + i * (i - 1));
            CHECK.due("states behind undo", x.count(11), i - 2);
        }
        CHECK.due("undo() of more than is kept", x.undo(), -2);
        CHECK.due("rows", x.count(0), 2);
        CHECK.due("undo() once more", x.undo(), -2);
        CHECK.due("rows", x.count(0), 2);
        CHECK.due("count(11)", x.count(11), 0);
        CHECK.due("cut()", x.cut(), 102);
        CHECK.due("undo() of a change behind that", x.undo(), 0);
        CHECK.due("rows", x.count(0), 2);
    }

    /** "A history of at most 5 states is kept: .. if there are 6 states then, the oldest is dropped." */
    private static void sixthStateDropsTheOldest() {
        for (int changes = 1; changes <= 12; changes++) {
            SoapFilm x = new SoapFilm();
            for (int i = 1; i <= changes; i++) {
                x.set(6, i);
                CHECK.due("states behind " + i + " changes", x.count(11), Math.min(i, 5));
            }
            int undone = 0;
            while (undone < 20 && x.undo() >= 0) {
                undone++;
            }
            CHECK.due("changes undone of " + changes, undone, Math.min(changes, 5));
            CHECK.due("the oldest state of " + changes, x.count(36), changes <= 5 ? 3000 : changes - 5);
        }
        SoapFilm x = new SoapFilm();
        for (int i = 1; i <= 5; i++) {
            x.set(6, i);
        }
        x.undo();
        x.undo();
        for (int i = 11; i <= 13; i++) {
            x.set(6, i);
        }
        int[] due = {12, 11, 3, 2, 1};
        for (int i = 0; i < due.length; i++) {
            CHECK.due("undo() of what was mixed", x.undo(), 4 - i);
            CHECK.due("what was mixed", x.count(36), due[i]);
        }
    }

    /** "The changes are the calls of set, dip, pour, add, thin, cut, go and read that return no error." */
    private static void everyChangeIsRecorded() {
        for (Supplier<SoapFilm> making : List.<Supplier<SoapFilm>>of(Films::three, Films::longHistory)) {
            TWINS.isRecorded("set", making, x -> x.set(3, 99), 30);
            TWINS.isRecorded("dip", making, x -> x.dip(2, 8, 1), 17);
            TWINS.isRecorded("pour", making, x -> x.pour(0, 3), making.get().row(0, 0) + 3);
            TWINS.isRecorded("add", making, x -> x.add(77), making.get().count(0) + 1);
            TWINS.isRecorded("thin", making, x -> x.thin(0, 9), 9);
            TWINS.isRecorded("cut", making, x -> x.cut(), last(making.get()));
            TWINS.isRecorded("go", making, x -> x.go(3), 3);
            TWINS.isRecorded("go and burst", making, x -> x.go(1000) < 1000 ? 1 : 0, 1);
            TWINS.isRecorded("read", making, x -> x.read(), 3);
        }
    }

    private static int last(SoapFilm film) {
        return film.row(film.count(0) - 1, 0);
    }

    /** Neither undo nor looks, questions and texts are changes, and the text is not restored. */
    private static void onlyChangesAreRecorded() {
        for (Supplier<SoapFilm> making : ALL) {
            SoapFilm x = making.get();
            int states = x.count(11);
            x.row(0, 5);
            x.ladder(0);
            x.find(7, 0);
            x.colourOf(100);
            x.thicknessFor(7, 100);
            x.until(0, 0);
            x.ifGo(0, 3);
            x.type('3');
            x.fault(0);
            x.clearText();
            CHECK.due("states behind calls that are no changes", x.count(11), states);
        }
        SoapFilm x = Films.three();
        x.set(0, 50);
        x.clearText();
        Check.typeAll(x, "12");
        x.undo();
        CHECK.due("states behind undo", x.count(11), 1);
        CHECK.due("the text behind undo", x.count(12), 2);
        CHECK.due("read() of the text behind undo", x.read(), 1);
        CHECK.rows("the text behind undo", x, 12);
    }

    /** "If several errors apply to a call, INVALID_ARGUMENT is returned rather than NOT_POSSIBLE ..". */
    private static void worstErrorFirst() {
        TWINS.changesNothing("add(-1) without a film", Films::none, x -> x.add(-1), -1);
        TWINS.changesNothing("add(5001) without a film", Films::none, x -> x.add(5001), -1);
        TWINS.changesNothing("add(5001) of a burst film", Films::burst, x -> x.add(5001), -1);
        TWINS.changesNothing("add(-1) to 24 rows", Films::full, x -> x.add(-1), -1);
        TWINS.changesNothing("add(5001) to 24 rows", Films::full, x -> x.add(5001), -1);
        TWINS.changesNothing("pour(0, 5001) onto 5000", Films::full, x -> x.pour(0, 5001), -1);
        TWINS.changesNothing("pour(24, 5000) onto 5000", Films::full, x -> x.pour(24, 5000), -1);
        TWINS.changesNothing("pour(-1, 5000) onto 5000", Films::full, x -> x.pour(-1, 5000), -1);
        TWINS.changesNothing("go(1001) at the last tick", Films::lastTick, x -> x.go(1001), -1);
        TWINS.changesNothing("go(0) at the last tick", Films::lastTick, x -> x.go(0), -1);
        TWINS.changesNothing("go(MAX) at the last tick", Films::lastTick, x -> x.go(MAX), -1);
    }

    /** As much liquid as 512 calls can bring. */
    private static void accountsOfManyFilms() {
        SoapFilm x = new SoapFilm();
        for (int i = 0; i < 508; i++) {
            x.dip(24, 5000, 0);
        }
        CHECK.due("count(20)", x.count(20), 508 * 120000);
        CHECK.due("count(21)", x.count(21), 120000);
        CHECK.due("count(26)", x.count(26), 507 * 120000);
        CHECK.due("count(11)", x.count(11), 5);
    }
}
