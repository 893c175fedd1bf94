/**
 * The edges that the document names for a tick, the drop, the burst and the accounts, a test for each
 * sentence. The numbers behind a text are the settings: slope, drying, running, black limit, least
 * thickness, most black rows, drop.
 *
 * Some words cannot be seen from outside. In (1) no slope gives more than half of a row, and the row
 * below has always given as much as it is short of room. In (2) no two rows that give are neighbours,
 * so that their order is all one.
 */
public final class TickEdgesTest {
    private static final Check CHECK = new Check();

    public static void main(String[] args) {
        nothingWithoutAFilm();
        fromTheLastRowUp();
        slopeRoundedDown();
        steepestAndNoSlope();
        intoAFullRow();
        runningBelowBlackOnly();
        runningByTheThicknessBehindDraining();
        runningByBlacknessAheadOfIt();
        runningAtMostTheThickness();
        runningAtMostTheRoom();
        greatestAndNoRunning();
        dropHasAlwaysRoom();
        dryingAtMostTheThickness();
        greatestAndNoDrying();
        dropFallsWhenFull();
        dropFallsWithAFilmOnly();
        burstWhenThinner();
        noBurstWithoutALeastThickness();
        burstWhenTooBlack();
        noBurstWith24BlackRows();
        thinGoesBeforeBlack();
        burstLosesTheFilmAndKeepsTheDrop();
        burstInTheTickOfADrop();
        latestBurstIsTold();
        accountsAddUp();
        CHECK.end("TickEdgesTest");
    }

    private static SoapFilm gone(int ticks, String text, int... settings) {
        SoapFilm x = Check.filmOf(text, settings);
        x.go(ticks);
        return x;
    }

    private static void burst(String name, SoapFilm x, int reason, int number, int ticksAhead) {
        CHECK.due(name + ": rows", x.count(0), 0);
        CHECK.due(name + ": reason", x.count(6), reason);
        CHECK.due(name + ": number", x.count(7), number);
        CHECK.due(name + ": ticks ahead", x.count(8), ticksAhead);
    }

    private static void whole(String name, SoapFilm x, int rows) {
        CHECK.due(name + ": rows", x.count(0), rows);
        CHECK.due(name + ": bursts", x.count(9), 0);
        CHECK.due(name + ": reason", x.count(6), 0);
        CHECK.due(name + ": number", x.count(7), -4);
        CHECK.due(name + ": ticks ahead", x.count(8), -4);
    }

    /** "If there is a film (without one nothing at all)." */
    private static void nothingWithoutAFilm() {
        SoapFilm x = new SoapFilm();
        x.set(4, 100);
        x.set(5, 1);
        x.go(1000);
        whole("no film", x, 0);
        CHECK.accounts("no film", x, 0, 0, 0, 0, 0, 0, 0);
        CHECK.due("drops", x.count(10), 0);
        CHECK.due("the tick", x.count(1), 1000);
    }

    /** "From the last row up to the row 0, one behind the other, by the thicknesses as they are then." */
    private static void fromTheLastRowUp() {
        // from the top down it would be 900, 979, 996, with 125 in the drop
        SoapFilm x = gone(1, "1000,1000,1000", 100, 0, 0, 1, 0, 24, 100000);
        CHECK.rows("three rows", x, 900, 1000, 1000);
        CHECK.due("the drop", x.count(22), 100);
        x = gone(2, "1000,1000,1000", 100, 0, 0, 1, 0, 24, 100000);
        CHECK.rows("three rows, two ticks", x, 819, 981, 1000);
        CHECK.due("the drop", x.count(22), 200);
        x = gone(1, "1000", 100, 0, 0, 1, 0, 24, 100000);
        CHECK.rows("one row gives to the drop", x, 900);
        CHECK.due("the drop", x.count(22), 100);
    }

    /** "Divisions are rounded down": the last thickness that gives nothing, and the first that gives 1. */
    private static void slopeRoundedDown() {
        CHECK.rows("999 at 1", gone(1, "999", 1, 0, 0, 1, 0, 24, 100000), 999);
        CHECK.rows("1000 at 1", gone(1, "1000", 1, 0, 0, 1, 0, 24, 100000), 999);
        CHECK.rows("99 at 100", gone(1, "99", 100, 0, 0, 1, 0, 24, 100000), 99);
        CHECK.rows("100 at 100", gone(1, "100", 100, 0, 0, 1, 0, 24, 100000), 99);
        CHECK.rows("141 at 100", gone(1, "141", 100, 0, 0, 1, 0, 24, 100000), 140);
        CHECK.rows("142 at 100", gone(1, "142", 100, 0, 0, 1, 0, 24, 100000), 140);
        // 223 * 223 * 20 is 994580, 224 * 224 * 20 is 1003520
        CHECK.rows("223 at 20", gone(1, "223", 20, 0, 0, 1, 0, 24, 100000), 223);
        CHECK.rows("224 at 20", gone(1, "224", 20, 0, 0, 1, 0, 24, 100000), 223);
        CHECK.rows("4999 at 100", gone(1, "4999", 100, 0, 0, 1, 0, 24, 100000), 2500);
    }

    /** "0 the slope (0 to 100)": 5000 * 5000 * 100 is more than an int holds. */
    private static void steepestAndNoSlope() {
        CHECK.rows("slope 0", gone(1000, "5000x3", 0, 0, 500, 1, 0, 24, 1), 5000, 5000, 5000);
        SoapFilm x = gone(1, "5000x3", 100, 0, 0, 1, 0, 24, 100000);
        CHECK.rows("slope 100", x, 2500, 5000, 5000);
        CHECK.due("the drop", x.count(22), 2500);
        CHECK.rows("slope 86", gone(1, "5000", 86, 0, 0, 1, 0, 24, 100000), 2850);
        CHECK.rows("slope 85", gone(1, "5000", 85, 0, 0, 1, 0, 24, 100000), 2875);
    }

    /** A row of 5000 has just given as much as the row above it gives. */
    private static void intoAFullRow() {
        SoapFilm x = gone(1, "5000x24", 1, 0, 0, 1, 0, 24, 100000);
        CHECK.due("the top row", x.row(0, 0), 4975);
        for (int i = 1; i < 24; i++) {
            CHECK.due("row " + i, x.row(i, 0), 5000);
        }
        CHECK.due("the drop", x.count(22), 25);
    }

    /** "Each row that is not black, directly below a row that is black": black is below the limit. */
    private static void runningBelowBlackOnly() {
        CHECK.rows("29 is black", gone(1, "29,500,500", 0, 0, 10, 30, 0, 24, 100000), 29, 490, 510);
        CHECK.rows("30 is not", gone(1, "30,500,500", 0, 0, 10, 30, 0, 24, 100000), 30, 500, 500);
        CHECK.rows("29 gives nothing", gone(1, "9,29,500", 0, 0, 10, 30, 0, 24, 100000), 9, 29, 490);
        CHECK.rows("30 gives", gone(1, "9,30,500", 0, 0, 10, 30, 0, 24, 100000), 9, 20, 510);
        CHECK.rows("limit 1: 0 is black", gone(1, "0,500,500", 0, 0, 10, 1, 0, 24, 100000), 0, 490, 510);
        CHECK.rows("limit 1: 1 is not", gone(1, "1,500,500", 0, 0, 10, 1, 0, 24, 100000), 1, 500, 500);
        CHECK.rows("limit 200: 199", gone(1, "199,500,500", 0, 0, 10, 200, 0, 24, 100000), 199, 490, 510);
        CHECK.rows("limit 200: 200", gone(1, "200,500,500", 0, 0, 10, 200, 0, 24, 100000), 200, 500, 500);
        CHECK.rows("a dark row is not black", gone(1, "200,500,500", 0, 0, 10, 30, 0, 24, 100000), 200, 500, 500);
        CHECK.rows("a black last row", gone(1, "9,29", 0, 0, 10, 30, 0, 24, 100000), 9, 29);
        CHECK.rows("not two below", gone(1, "9,9,500,500,500", 0, 0, 10, 30, 0, 24, 100000), 9, 9, 490, 510, 500);
        CHECK.rows("not the row 0", gone(1, "500,9", 0, 0, 10, 30, 0, 24, 100000), 500, 9);
        CHECK.rows("not a single row", gone(1, "500", 0, 0, 10, 30, 0, 24, 100000), 500);
        CHECK.rows("not by the last row", gone(1, "500,500,9", 0, 0, 10, 30, 0, 24, 100000), 500, 500, 9);
    }

    /** "Whether rows are black is told by their thickness behind (1)." */
    private static void runningByTheThicknessBehindDraining() {
        // 201 gives 4 and is black then; the row below has given 100 and gets the 4
        SoapFilm x = gone(1, "201,1000,0", 100, 0, 10, 200, 0, 24, 100000);
        CHECK.rows("black by draining", x, 197, 894, 110);
        // 199 is black, gets 25 and is not black behind (1)
        x = gone(1, "500,199,1000", 100, 0, 10, 200, 0, 24, 100000);
        CHECK.rows("not black any more", x, 475, 221, 903);
        // the drying of the tick before has made it black, that of this tick comes behind the running
        CHECK.rows("drying comes later", gone(1, "30,500,500", 0, 1, 10, 30, 0, 24, 100000), 29, 499, 499);
        CHECK.rows("and counts then", gone(2, "30,500,500", 0, 1, 10, 30, 0, 24, 100000), 28, 488, 508);
    }

    /** ".. before any row has given in (2)". */
    private static void runningByBlacknessAheadOfIt() {
        // row 2 gets 50 before row 3 is asked whether a black row is above it
        SoapFilm x = gone(1, "9,100,9,100,4000", 0, 0, 50, 30, 0, 24, 100000);
        CHECK.rows("a black row that is given liquid", x, 9, 50, 59, 50, 4050);
        // row 1 has nothing left before row 2 is asked whether a black row is above it
        x = gone(1, "9,40,100,100", 0, 0, 50, 30, 0, 24, 100000);
        CHECK.rows("a row that is black by giving", x, 9, 0, 140, 100);
        x = gone(1, "9,500,4,4,4990,4990", 0, 0, 500, 30, 0, 24, 100000);
        CHECK.rows("two edges", x, 9, 0, 504, 4, 4980, 5000);
    }

    /** "Gives likewise the running .., at most its thickness." */
    private static void runningAtMostTheThickness() {
        CHECK.rows("401 at 400", gone(1, "0,401,100", 0, 0, 400, 30, 0, 24, 100000), 0, 1, 500);
        CHECK.rows("400 at 400", gone(1, "0,400,100", 0, 0, 400, 30, 0, 24, 100000), 0, 0, 500);
        CHECK.rows("399 at 400", gone(1, "0,399,100", 0, 0, 400, 30, 0, 24, 100000), 0, 0, 499);
        SoapFilm x = gone(1, "0,399", 0, 0, 400, 30, 0, 24, 100000);
        CHECK.rows("399 into the drop", x, 0, 0);
        CHECK.due("the drop", x.count(22), 399);
        x = gone(1, "0,401", 0, 0, 400, 30, 0, 24, 100000);
        CHECK.rows("401 into the drop", x, 0, 1);
        CHECK.due("the drop", x.count(22), 400);
    }

    /** "And at most the room." */
    private static void runningAtMostTheRoom() {
        CHECK.rows("more room", gone(1, "0,900,4599", 0, 0, 400, 30, 0, 24, 100000), 0, 500, 4999);
        CHECK.rows("just room", gone(1, "0,900,4600", 0, 0, 400, 30, 0, 24, 100000), 0, 500, 5000);
        CHECK.rows("less room", gone(1, "0,900,4601", 0, 0, 400, 30, 0, 24, 100000), 0, 501, 5000);
        CHECK.rows("room for 1", gone(1, "0,900,4999", 0, 0, 400, 30, 0, 24, 100000), 0, 899, 5000);
        CHECK.rows("no room", gone(1, "0,900,5000", 0, 0, 400, 30, 0, 24, 100000), 0, 900, 5000);
        CHECK.rows("less than room and running", gone(1, "0,99,4800", 0, 0, 400, 30, 0, 24, 100000), 0, 0, 4899);
    }

    /** "2 the running (0 to 500)." */
    private static void greatestAndNoRunning() {
        CHECK.rows("running 0", gone(9, "0,5000", 0, 0, 0, 30, 0, 24, 1), 0, 5000);
        CHECK.rows("running 500", gone(9, "0,5000", 0, 0, 500, 30, 0, 24, 1), 0, 500);
    }

    /** "The drop has always room." */
    private static void dropHasAlwaysRoom() {
        SoapFilm x = Check.filmOf("5000", 100, 0, 0, 1, 0, 24, 100000);
        x.go(1);
        for (int i = 1; i < 39; i++) {
            x.dip(1, 5000, 0);
            x.go(1);
        }
        CHECK.due("a drop of 39 * 2500", x.count(22), 97500);
        x.dip(1, 4999, 0);
        x.go(1);
        CHECK.due("a drop that misses 1", x.count(22), 99999);
        CHECK.due("drops", x.count(10), 0);
        x.dip(1, 5000, 0);
        x.go(1);
        CHECK.due("fallen", x.count(23), 102499);
        CHECK.due("drops", x.count(10), 1);
        CHECK.due("the drop", x.count(22), 0);
    }

    /** "From each row the drying is lost, at most its thickness." */
    private static void dryingAtMostTheThickness() {
        SoapFilm x = gone(1, "0,1,19,20,21,5000", 0, 20, 0, 1, 0, 24, 100000);
        CHECK.rows("drying 20", x, 0, 0, 0, 0, 1, 4980);
        CHECK.accounts("drying 20", x, 5061, 4981, 0, 0, 80, 0, 0);
        x.go(1);
        CHECK.rows("drying 20 again", x, 0, 0, 0, 0, 0, 4960);
        CHECK.due("dried", x.count(24), 101);
    }

    /** "1 the drying (0 to 50)." */
    private static void greatestAndNoDrying() {
        CHECK.rows("drying 0", gone(1000, "1,5000", 0, 0, 0, 1, 0, 24, 1), 1, 5000);
        CHECK.rows("drying 50", gone(1, "49,50,51", 0, 50, 0, 1, 0, 24, 1), 0, 0, 1);
    }

    /** "If the drop holds at least what it can hold, all of it falls, as one drop." */
    private static void dropFallsWhenFull() {
        // the row of 1000 gives 100, that of 900 then 81
        int[][] due = {{99, 100, 1}, {100, 100, 1}, {101, 0, 0}, {1, 100, 1}, {100000, 0, 0}};
        for (int[] a : due) {
            SoapFilm x = gone(1, "1000", 100, 0, 0, 1, 0, 24, a[0]);
            CHECK.due("fallen from a drop that holds " + a[0], x.count(23), a[1]);
            CHECK.due("drop that holds " + a[0], x.count(22), 100 - a[1]);
            CHECK.due("drops", x.count(10), a[2]);
        }
        CHECK.due("180 of 181 in two ticks", gone(2, "1000", 100, 0, 0, 1, 0, 24, 181).count(23), 181);
        CHECK.due("181 of 182 in two ticks", gone(2, "1000", 100, 0, 0, 1, 0, 24, 182).count(22), 181);
        CHECK.due("2500 when it holds 1 is one drop", gone(1, "5000", 100, 0, 0, 1, 0, 24, 1).count(10), 1);
        SoapFilm x = gone(1, "99", 100, 0, 0, 1, 0, 24, 1);
        CHECK.due("an empty drop does not fall", x.count(10), 0);
        x = gone(1, "100", 100, 0, 0, 1, 0, 24, 1);
        CHECK.due("a drop of 1 falls when it holds 1", x.count(10), 1);
        CHECK.due("fallen", x.count(23), 1);
        x = gone(1, "100", 100, 0, 0, 1, 0, 24, 2);
        CHECK.due("a drop of 1 does not fall when it holds 2", x.count(10), 0);
    }

    /** "In each tick, this happens, if there is a film": the drop of no film waits. */
    private static void dropFallsWithAFilmOnly() {
        SoapFilm x = gone(1, "1000", 100, 0, 0, 1, 0, 24, 101);
        x.set(6, 100);
        CHECK.due("set lets nothing fall", x.count(22), 100);
        x.thin(0, 5000);
        x.set(4, 1);
        x.set(6, 101);
        x.go(1);
        burst("a film of 0", x, 1, 0, 1);
        x.set(6, 1);
        x.go(1000);
        CHECK.due("the drop without a film", x.count(22), 100);
        CHECK.due("drops", x.count(10), 0);
        x.dip(1, 1, 0);
        CHECK.due("the drop of a new film ahead of its first tick", x.count(22), 100);
        x.go(1);
        CHECK.due("the drop behind it", x.count(22), 0);
        CHECK.due("fallen", x.count(23), 100);
        CHECK.due("drops", x.count(10), 1);
    }

    /** "If a row is thinner than the least thickness (the reason 1, with the first such row)." */
    private static void burstWhenThinner() {
        whole("as thick as the least", gone(1, "5,5", 0, 0, 0, 1, 5, 24, 100000), 2);
        burst("row 0", gone(1, "4,5", 0, 0, 0, 1, 5, 24, 100000), 1, 0, 0);
        burst("row 1", gone(1, "5,4", 0, 0, 0, 1, 5, 24, 100000), 1, 1, 0);
        burst("the first of three", gone(1, "5,4,3,0", 0, 0, 0, 1, 5, 24, 100000), 1, 1, 0);
        burst("the last of 24", gone(1, "5x23,4", 0, 0, 0, 1, 5, 24, 100000), 1, 23, 0);
        whole("100 at 100", gone(1000, "100", 0, 0, 0, 1, 100, 24, 100000), 1);
        burst("99 at 100", gone(1, "99", 0, 0, 0, 1, 100, 24, 100000), 1, 0, 0);
        whole("1 at 1", gone(1000, "1", 0, 0, 0, 1, 1, 24, 100000), 1);
        burst("0 at 1", gone(1, "0", 0, 0, 0, 1, 1, 24, 100000), 1, 0, 0);
        burst("5 that dries", gone(1, "9,5", 0, 1, 0, 1, 5, 24, 100000), 1, 1, 0);
        whole("6 that dries", gone(1, "9,6", 0, 1, 0, 1, 5, 24, 100000), 2);
        burst("6 that dries", gone(2, "9,6", 0, 1, 0, 1, 5, 24, 100000), 1, 1, 1);
        SoapFilm x = Check.filmOf("5,4", 0, 0, 0, 1, 5, 24, 100000);
        whole("ahead of a tick", x, 2);
        x.pour(1, 1);
        x.go(1);
        whole("poured in time", x, 2);
    }

    /** "4 the least thickness (0 to 100)": no row is thinner than 0. */
    private static void noBurstWithoutALeastThickness() {
        whole("0 at 0", gone(1000, "0,0,0", 0, 50, 500, 200, 0, 24, 1), 3);
    }

    /** "Or otherwise if more rows than the most black rows are black (the reason 2, with their number)." */
    private static void burstWhenTooBlack() {
        whole("1 of 1", gone(1, "29,30", 0, 0, 0, 30, 5, 1, 100000), 2);
        burst("2 of 1", gone(1, "29,29,30", 0, 0, 0, 30, 5, 1, 100000), 2, 2, 0);
        burst("3 of 1", gone(1, "29,29,5", 0, 0, 0, 30, 5, 1, 100000), 2, 3, 0);
        whole("12 of 12", gone(1, "29x12,30x12", 0, 0, 0, 30, 5, 12, 100000), 24);
        burst("13 of 12", gone(1, "29x13,30x11", 0, 0, 0, 30, 5, 12, 100000), 2, 13, 0);
        burst("13 of 12, not side by side", gone(1, "30,29x6,30x9,29x7", 0, 0, 0, 30, 5, 12, 100000), 2, 13, 0);
        burst("24 of 23", gone(1, "29x24", 0, 0, 0, 30, 5, 23, 100000), 2, 24, 0);
        whole("by the limit 29", gone(1, "29x24", 0, 0, 0, 29, 5, 1, 100000), 24);
        burst("30 that dry", gone(1, "30x3", 0, 1, 0, 30, 5, 2, 100000), 2, 3, 0);
        whole("31 that dry", gone(1, "31x3", 0, 1, 0, 30, 5, 2, 100000), 3);
        burst("31 that dry", gone(2, "31x3", 0, 1, 0, 30, 5, 2, 100000), 2, 3, 1);
        whole("dark is not black", gone(1, "200x24", 0, 0, 0, 30, 5, 1, 100000), 24);
    }

    /** "5 the most black rows (1 to 24)": there are not more than 24. */
    private static void noBurstWith24BlackRows() {
        whole("24 of 24", gone(1000, "29x24", 0, 0, 0, 30, 5, 24, 100000), 24);
    }

    /** "Or otherwise": the reason 1 goes before the reason 2. */
    private static void thinGoesBeforeBlack() {
        burst("too thin and too black", gone(1, "29,29,4", 0, 0, 0, 30, 5, 1, 100000), 1, 2, 0);
        burst("just not too thin", gone(1, "29,29,5", 0, 0, 0, 30, 5, 1, 100000), 2, 3, 0);
    }

    /** "Then all its liquid is lost by the burst; the drop stays." */
    private static void burstLosesTheFilmAndKeepsTheDrop() {
        SoapFilm x = gone(1, "4,1000", 100, 0, 0, 1, 5, 24, 101);
        burst("burst", x, 1, 0, 0);
        CHECK.accounts("burst", x, 1004, 0, 100, 0, 0, 904, 0);
        x.go(1);
        x.dip(1, 1000, 0);
        CHECK.accounts("a new film", x, 2004, 1000, 100, 0, 0, 904, 0);
        x.go(1);
        CHECK.accounts("the drop goes on", x, 2004, 900, 0, 200, 0, 904, 0);
    }

    /** (4) comes ahead of (5). */
    private static void burstInTheTickOfADrop() {
        SoapFilm x = gone(1, "4,1000", 100, 0, 0, 1, 5, 24, 100);
        burst("burst", x, 1, 0, 0);
        CHECK.accounts("the drop has fallen first", x, 1004, 0, 0, 100, 0, 904, 0);
        CHECK.due("drops", x.count(10), 1);
        x = gone(1, "5,5", 0, 5, 0, 1, 5, 24, 100);
        CHECK.accounts("nothing is left to be lost", x, 10, 0, 0, 0, 10, 0, 0);
        CHECK.due("bursts", x.count(9), 1);
    }

    /** "The reason of the latest burst, also with a new film"; "how many ticks had gone by ahead". */
    private static void latestBurstIsTold() {
        SoapFilm x = gone(3, "5,4", 0, 0, 0, 30, 5, 1, 100000);
        burst("the first burst", x, 1, 1, 0);
        x.dip(2, 29, 0);
        CHECK.due("reason with a new film", x.count(6), 1);
        CHECK.due("row with a new film", x.count(7), 1);
        CHECK.due("ticks ahead with a new film", x.count(8), 0);
        x.go(1);
        burst("the second burst", x, 2, 2, 3);
        CHECK.due("bursts", x.count(9), 2);
        CHECK.due("lost", x.count(25), 67);
        x.undo();
        CHECK.due("reason behind undo", x.count(6), 1);
        CHECK.due("row behind undo", x.count(7), 1);
        CHECK.due("ticks ahead behind undo", x.count(8), 0);
        CHECK.due("bursts behind undo", x.count(9), 1);
    }

    /** "0 is the sum of the others", with liquid in every account. */
    private static void accountsAddUp() {
        SoapFilm x = gone(1, "1000,500", 100, 2, 0, 1, 5, 24, 20);
        // 25 of row 1 fall, 100 of row 0 run into it, 2 of each dry
        CHECK.rows("one tick", x, 898, 573);
        CHECK.accounts("one tick", x, 1500, 1471, 0, 25, 4, 0, 0);
        x.thin(0, 894);
        x.set(6, 100);
        x.go(1);
        CHECK.accounts("burst", x, 1500, 0, 32, 25, 8, 541, 894);
        x.dip(2, 50, 50);
        x.pour(1, 7);
        x.add(3);
        x.cut();
        x.thin(0, 5000);
        x.cut();
        CHECK.rows("a new film", x, 0);
        CHECK.accounts("all of them", x, 1660, 0, 32, 25, 8, 541, 1054);
    }
}
