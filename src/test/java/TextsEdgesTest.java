import java.util.Arrays;
import java.util.List;
import java.util.function.Supplier;

/**
 * The edges that promises 18 to 21 and the terms of texts name, a test for each sentence: an empty
 * text and a full one, the first and the last number of each range and one beyond, and what a refused
 * call leaves as it was.
 */
public final class TextsEdgesTest {
    private static final int MIN = Integer.MIN_VALUE;
    private static final int MAX = Integer.MAX_VALUE;
    private static final List<Supplier<SoapFilm>> ALL = List.of(Films::none, Films::burst, Films::three,
            Films::longHistory, Films::full, Films::fullText, Films::lastTick);
    private static final Check CHECK = new Check();
    private static final Twins TWINS = new Twins(CHECK);

    public static void main(String[] args) {
        typeTakes();
        typeRefuses();
        typeIntoAFullText();
        clearTextOfNothing();
        clearTextOfAFullText();
        emptyText();
        thicknessOfOneToFourDigits();
        thicknessInItsRange();
        rowsOfOneOrTwoDigits();
        rowsInTheirRange();
        signsBesideTheForm();
        partsBetweenCommas();
        atMost24Rows();
        firstReasonThatApplies();
        firstThicknessThatIsNotPossible();
        positionsUpTo100();
        faultRefuses();
        faultWithoutAFault();
        readTakes();
        readRefuses();
        readTakesTheFilmThatIsThereAway();
        readLeavesTheText();
        textIsNoPartOfTheHistory();
        CHECK.end("TextsEdgesTest");
    }

    private static SoapFilm typed(String text) {
        SoapFilm x = Films.longHistory();
        x.clearText();
        Check.typeAll(x, text);
        return x;
    }

    /** The film that is there stays, whatever the fault is. */
    private static void fault(String text, int position, int reason) {
        Supplier<SoapFilm> making = () -> typed(text);
        TWINS.changesNothing("fault(0) of \"" + text + "\"", making, x -> x.fault(0), position);
        TWINS.changesNothing("fault(1) of \"" + text + "\"", making, x -> x.fault(1), reason);
        TWINS.changesNothing("read() of \"" + text + "\"", making, x -> x.read(), -2);
    }

    private static void good(String text, int... rows) {
        Supplier<SoapFilm> making = () -> typed(text);
        TWINS.changesNothing("fault(0) of \"" + text + "\"", making, x -> x.fault(0), -4);
        TWINS.changesNothing("fault(1) of \"" + text + "\"", making, x -> x.fault(1), -4);
        TWINS.isRecorded("read() of \"" + text + "\"", making, x -> x.read(), rows.length);
        SoapFilm x = making.get();
        x.read();
        CHECK.rows("\"" + text + "\"", x, rows);
    }

    /** Promise 18: "character: 32 to 126"; "Returns the length of the text". */
    private static void typeTakes() {
        SoapFilm x = new SoapFilm();
        for (int sign = 32; sign <= 126; sign++) {
            CHECK.due("type(" + sign + ")", x.type(sign), sign - 31);
            CHECK.due("count(12)", x.count(12), sign - 31);
        }
    }

    /** Promise 18: "INVALID_ARGUMENT if character is out of range". */
    private static void typeRefuses() {
        for (int sign : new int[] {31, 127, 0, -1, 10, 128, 255, 256 + 53, 65536 + 53, MIN, MAX, MIN + 53}) {
            TWINS.changesNothing("type(" + sign + ")", ALL, x -> x.type(sign), -1);
        }
    }

    /** Promise 18: "LIMIT_REACHED if it has 100 characters", and INVALID_ARGUMENT rather than that. */
    private static void typeIntoAFullText() {
        SoapFilm x = Films.fullText();
        CHECK.due("count(12) of a full text", x.count(12), 100);
        for (int sign : new int[] {32, 44, 48, 57, 120, 126}) {
            TWINS.changesNothing("type(" + sign + ") into a full text", Films::fullText, y -> y.type(sign), -3);
        }
        for (int sign : new int[] {31, 127, MIN, MAX}) {
            TWINS.changesNothing("type(" + sign + ") into a full text", Films::fullText, y -> y.type(sign), -1);
        }
        CHECK.due("read() of a full text", x.read(), 13);
        x.clearText();
        CHECK.due("type(48) when it is full no more", x.type(48), 1);
    }

    /** Promise 19: "Returns the length it had", also that of nothing. */
    private static void clearTextOfNothing() {
        TWINS.changesNothing("clearText() of an empty text", Films::none, x -> x.clearText(), 0);
        SoapFilm x = Films.three();
        x.clearText();
        CHECK.due("clearText() again", x.clearText(), 0);
        CHECK.rows("the film stays", x, 100, 200, 300);
        CHECK.due("count(11)", x.count(11), 1);
    }

    private static void clearTextOfAFullText() {
        SoapFilm x = Films.fullText();
        CHECK.due("clearText() of a full text", x.clearText(), 100);
        CHECK.due("count(12)", x.count(12), 0);
        CHECK.due("fault(0)", x.fault(0), 0);
        CHECK.due("fault(1)", x.fault(1), 1);
        CHECK.due("read()", x.read(), -2);
        CHECK.due("the film stays", x.count(0), 13);
        CHECK.due("clearText() is no change", x.count(11), 1);
        CHECK.due("type(53)", x.type(53), 1);
        CHECK.due("nothing is left of the full text", x.read(), 1);
        CHECK.rows("nothing is left of the full text", x, 5);
    }

    /** "The empty text has the fault 0 with the reason 1." "Initially empty." */
    private static void emptyText() {
        TWINS.changesNothing("fault(0) of a new object", Films::none, x -> x.fault(0), 0);
        TWINS.changesNothing("fault(1) of a new object", Films::none, x -> x.fault(1), 1);
        TWINS.changesNothing("read() of a new object", Films::none, x -> x.read(), -2);
        fault("", 0, 1);
    }

    /** "Thicknesses of 1 to 4 digits." */
    private static void thicknessOfOneToFourDigits() {
        good("0", 0);
        good("9", 9);
        good("10", 10);
        good("999", 999);
        good("1000", 1000);
        good("0001", 1);
        good("0000", 0);
        fault("00001", 0, 1);
        fault("10000", 0, 1);
        fault("12345", 0, 1);
        fault("4294967297", 0, 1);
        fault("18446744073709551617", 0, 1);
        fault("x1", 0, 1);
        fault("00001x1", 0, 1);
    }

    /** "(0 to 5000)". */
    private static void thicknessInItsRange() {
        good("0", 0);
        good("4999", 4999);
        good("5000", 5000);
        fault("5001", 0, 2);
        fault("9999", 0, 2);
        fault("5001x1", 0, 2);
        good("5000x2", 5000, 5000);
    }

    /** "Can be followed by \"x\" and a number of rows (1 or 2 digits ..)." */
    private static void rowsOfOneOrTwoDigits() {
        good("7x1", 7);
        good("7x01", 7);
        good("7x02", 7, 7);
        fault("7x", 0, 1);
        fault("7x001", 0, 1);
        fault("7x100", 0, 1);
        fault("7x4294967297", 0, 1);
        fault("7x1x1", 0, 1);
        fault("7xx1", 0, 1);
        fault("x", 0, 1);
        fault("xx", 0, 1);
        fault("7x1x", 0, 1);
        fault("7X1", 0, 1);
    }

    /** "1 to 24". */
    private static void rowsInTheirRange() {
        good("7x1", 7);
        good("7x24", 7, 7, 7, 7, 7, 7, 7, 7, 7, 7, 7, 7, 7, 7, 7, 7, 7, 7, 7, 7, 7, 7, 7, 7);
        fault("7x0", 0, 2);
        fault("7x00", 0, 2);
        fault("7x25", 0, 2);
        fault("7x99", 0, 2);
    }

    /** Whatever is no digit, "x" or "," is not of this form; nor is a blank. */
    private static void signsBesideTheForm() {
        for (int sign = 32; sign <= 126; sign++) {
            if (sign < '0' || sign > '9') {
                String text = "" + (char) sign;
                fault(text, 0, 1);
                fault("5" + text, sign == ',' ? 2 : 0, 1);
                fault(text + "5", 0, 1);
                fault("5x" + text, 0, 1);
                fault("5x1" + text, sign == ',' ? 4 : 0, 1);
                fault("12," + text, 3, 1);
            }
        }
    }

    /** "With \",\" between two of them": none at the beginning, at the end, or beside another. */
    private static void partsBetweenCommas() {
        good("1,2", 1, 2);
        good("1,2x2,3", 1, 2, 2, 3);
        fault(",", 0, 1);
        fault(",,", 0, 1);
        fault(",1", 0, 1);
        fault("1,", 2, 1);
        fault("1,,2", 2, 1);
        fault("1x2,", 4, 1);
        fault("1x,2", 0, 1);
        fault("1,x2", 2, 1);
        fault("1x2 ,3", 0, 1);
    }

    /** "3 if there would be more than 24 rows": the part that is one too many. */
    private static void atMost24Rows() {
        good("1x12,2x12", 1, 1, 1, 1, 1, 1, 1, 1, 1, 1, 1, 1, 2, 2, 2, 2, 2, 2, 2, 2, 2, 2, 2, 2);
        good("1x23,2", 1, 1, 1, 1, 1, 1, 1, 1, 1, 1, 1, 1, 1, 1, 1, 1, 1, 1, 1, 1, 1, 1, 1, 2);
        good("0,1,2,3,4,5,6,7,8,9,10,11,12,13,14,15,16,17,18,19,20,21,22,23", 0, 1, 2, 3, 4, 5, 6, 7,
                8, 9, 10, 11, 12, 13, 14, 15, 16, 17, 18, 19, 20, 21, 22, 23);
        fault("0,1,2,3,4,5,6,7,8,9,10,11,12,13,14,15,16,17,18,19,20,21,22,23,24", 62, 3);
        fault("1x24,2", 5, 3);
        fault("1x23,2x2", 5, 3);
        fault("1,2x24", 2, 3);
        fault("1x12,2x13", 5, 3);
        fault("1x12,2x12,3x1", 10, 3);
        fault("1x24,2x24,3x24", 5, 3);
    }

    /** "The first one of these that applies." */
    private static void firstReasonThatApplies() {
        fault("5001x", 0, 1);
        fault("5001x025", 0, 1);
        fault("7x99y", 0, 1);
        fault("5001x25", 0, 2);
        fault("1x24,5001", 5, 2);
        fault("1x24,2x0", 5, 2);
        fault("1x24,2x25", 5, 2);
        fault("1x24,", 5, 1);
        fault("1x24,5001x", 5, 1);
        fault("1x24,00001", 5, 1);
    }

    /** "The first character of the first thickness .. that is not possible", whatever comes later. */
    private static void firstThicknessThatIsNotPossible() {
        fault("5001,", 0, 2);
        fault("5001,a,1x24,1", 0, 2);
        fault("3,5001,a", 2, 2);
        fault("3,a,5001", 2, 1);
        fault("1x24,2,a", 5, 3);
        fault("1x24,2,5001", 5, 3);
        fault("1x23,2x2,3", 5, 3);
        fault("10,20x2,30,4a0,50,", 11, 1);
        fault("10,20x25", 3, 2);
        fault("10,20x2,3000x1x", 8, 1);
        fault("10,20x2,3000x23", 8, 3);
    }

    /** The last positions of a full text, and the one behind its last character. */
    private static void positionsUpTo100() {
        StringBuilder parts = new StringBuilder();
        for (int i = 0; i < 12; i++) {
            parts.append("4000x01,");
        }
        int[] rows = new int[13];
        Arrays.fill(rows, 4000);
        good(parts + "4000", rows);
        fault(parts + "5001", 96, 2);
        fault(parts + "40,x", 99, 1);
        fault(parts + "400,", 100, 1);
        fault(parts + ",,,,", 96, 1);
        fault(",".repeat(100), 0, 1);
        fault("1".repeat(100), 0, 1);
        fault("x".repeat(100), 0, 1);
        fault("1,".repeat(50), 48, 3);
        fault(parts.substring(8) + "4000x13,1234", 96, 3);
        fault(parts.substring(8) + "4000x14,1234", 88, 3);
    }

    /** Promise 20: "INVALID_ARGUMENT if what is out of range", rather than NOT_FOUND. */
    private static void faultRefuses() {
        for (int what : new int[] {-1, 2, MIN, MAX}) {
            TWINS.changesNothing("fault(" + what + ")", ALL, x -> x.fault(what), -1);
            TWINS.changesNothing("fault(" + what + ") of a fault", () -> typed("7,x"), x -> x.fault(what), -1);
        }
    }

    /** Promise 20: "NOT_FOUND if the text has no fault." */
    private static void faultWithoutAFault() {
        for (Supplier<SoapFilm> making : List.<Supplier<SoapFilm>>of(Films::three, Films::full, Films::fullText)) {
            TWINS.changesNothing("fault(0)", making, x -> x.fault(0), -4);
            TWINS.changesNothing("fault(1)", making, x -> x.fault(1), -4);
        }
        SoapFilm x = Films.three();
        x.type(',');
        CHECK.due("fault(0) of a fault that is new", x.fault(0), 12);
        x.type('9');
        CHECK.due("fault(0) of a fault that is mended", x.fault(0), -4);
    }

    /** Promise 21: "Makes the film of the text"; "Returns the number of rows". */
    private static void readTakes() {
        TWINS.isRecorded("read() again", Films::three, x -> x.read(), 3);
        TWINS.isRecorded("read() of 24 rows", Films::full, x -> x.read(), 24);
        TWINS.isRecorded("read() of a full text", Films::fullText, x -> x.read(), 13);
        TWINS.isRecorded("read() of one row", () -> typed("0"), x -> x.read(), 1);
        TWINS.isRecorded("read() behind a burst", Films::burst, x -> x.read(), 2);
        TWINS.isRecorded("read() at the last tick", Films::lastTick, x -> x.read(), 2);
        CHECK.due("the liquid of 24 rows", Films.full().count(21), 120000);
    }

    /** Promise 21: "NOT_POSSIBLE if the text has a fault." */
    private static void readRefuses() {
        for (String text : new String[] {"", ",", "5001", "7x0", "7x24,7"}) {
            TWINS.changesNothing("read() of \"" + text + "\"", () -> typed(text), x -> x.read(), -2);
            Supplier<SoapFilm> noFilm = () -> {
                SoapFilm x = new SoapFilm();
                Check.typeAll(x, text);
                return x;
            };
            TWINS.changesNothing("read() of \"" + text + "\" without a film", noFilm, x -> x.read(), -2);
        }
    }

    /** Promise 21: "a film that is there is taken away first". */
    private static void readTakesTheFilmThatIsThereAway() {
        SoapFilm x = Films.three();
        CHECK.accounts("no film was there", x, 600, 600, 0, 0, 0, 0, 0);
        x.pour(0, 50);
        x.read();
        CHECK.rows("the new film alone", x, 100, 200, 300);
        CHECK.accounts("a film was there", x, 1250, 600, 0, 0, 0, 0, 650);
        x = Films.full();
        x.clearText();
        x.type('8');
        x.read();
        CHECK.rows("in place of a full film", x, 8);
        CHECK.accounts("in place of a full film", x, 120008, 8, 0, 0, 0, 0, 120000);
        x = Films.burst();
        x.read();
        CHECK.rows("in place of a burst film", x, 100, 4);
        CHECK.accounts("a burst film is not there", x, 208, 104, 0, 0, 2, 102, 0);
    }

    /** Promise 21: ".. of the text, which stays". */
    private static void readLeavesTheText() {
        SoapFilm x = Films.three();
        CHECK.due("count(12)", x.count(12), 11);
        CHECK.due("type('0') behind read", x.type('0'), 12);
        CHECK.due("read() of both", x.read(), 3);
        CHECK.rows("read of both", x, 100, 200, 3000);
        CHECK.due("type('0')", x.type('0'), 13);
        CHECK.due("read() of a fault", x.read(), -2);
        CHECK.due("count(12) behind a fault", x.count(12), 13);
        CHECK.due("fault(0)", x.fault(0), 8);
    }

    /** "Each change records everything before it but the text." */
    private static void textIsNoPartOfTheHistory() {
        SoapFilm x = Films.three();
        x.clearText();
        x.undo();
        CHECK.due("undo() of read brings no text back", x.count(12), 0);
        CHECK.due("undo() of read", x.count(0), 0);
        Check.typeAll(x, "7,8");
        x.read();
        x.undo();
        CHECK.due("undo() of read takes no text away", x.count(12), 3);
        CHECK.due("read() once more", x.read(), 2);
        CHECK.due("type and clearText record nothing", x.count(11), 1);
    }
}
