/** Promises 18 to 21: the text, its faults, and the film that is read from it. */
public final class TextsTest {
    private static final Check CHECK = new Check();

    public static void main(String[] args) {
        typing();
        clearing();
        goodTexts();
        badForms();
        badRanges();
        tooManyRows();
        firstFault();
        wrongFaults();
        reading();
        CHECK.end("TextsTest");
    }

    private static void typing() {
        SoapFilm x = new SoapFilm();
        int[] wrong = {31, 127, 0, -1, 10, 128, 233, 256 + 48, 65536 + 48, Integer.MIN_VALUE, Integer.MAX_VALUE};
        for (int sign : wrong) {
            CHECK.due("type(" + sign + ")", x.type(sign), -1);
        }
        CHECK.due("count(12)", x.count(12), 0);
        CHECK.due("type(32)", x.type(32), 1);
        CHECK.due("type(126)", x.type(126), 2);
        for (int i = 3; i <= 100; i++) {
            CHECK.due("type(48)", x.type(48), i);
        }
        CHECK.due("type(48) into a full text", x.type(48), -3);
        CHECK.due("type(31) into a full text", x.type(31), -1);
        CHECK.due("count(12)", x.count(12), 100);
        CHECK.due("count(11): typing is no change", x.count(11), 0);
        CHECK.due("fault(1)", x.fault(1), 1);
    }

    private static void clearing() {
        SoapFilm x = new SoapFilm();
        CHECK.due("clearText() of nothing", x.clearText(), 0);
        Check.typeAll(x, "100,7x2");
        CHECK.due("clearText()", x.clearText(), 7);
        CHECK.due("count(12)", x.count(12), 0);
        CHECK.due("clearText() again", x.clearText(), 0);
        CHECK.due("count(11): clearing is no change", x.count(11), 0);
        Check.typeAll(x, "5");
        CHECK.due("read()", x.read(), 1);
        CHECK.rows("nothing is left of the first text", x, 5);
    }

    private static void fault(String text, int position, int reason) {
        SoapFilm x = new SoapFilm();
        Check.typeAll(x, text);
        CHECK.due("fault(0) of \"" + text + "\"", x.fault(0), position);
        CHECK.due("fault(1) of \"" + text + "\"", x.fault(1), reason);
        CHECK.due("read() of \"" + text + "\"", x.read(), -2);
        CHECK.due("count(0) of \"" + text + "\"", x.count(0), 0);
        CHECK.due("count(11) of \"" + text + "\"", x.count(11), 0);
    }

    private static void good(String text, int... rows) {
        SoapFilm x = new SoapFilm();
        Check.typeAll(x, text);
        CHECK.due("fault(0) of \"" + text + "\"", x.fault(0), -4);
        CHECK.due("fault(1) of \"" + text + "\"", x.fault(1), -4);
        CHECK.due("read() of \"" + text + "\"", x.read(), rows.length);
        CHECK.rows("\"" + text + "\"", x, rows);
    }

    private static void goodTexts() {
        good("0", 0);
        good("5000", 5000);
        good("0000", 0);
        good("0007x01", 7);
        good("1x1", 1);
        good("3,2,1", 3, 2, 1);
        good("12x2,34,56x03", 12, 12, 34, 56, 56, 56);
        good("9x24", 9, 9, 9, 9, 9, 9, 9, 9, 9, 9, 9, 9, 9, 9, 9, 9, 9, 9, 9, 9, 9, 9, 9, 9);
        good("8x12,7x11,6", 8, 8, 8, 8, 8, 8, 8, 8, 8, 8, 8, 8, 7, 7, 7, 7, 7, 7, 7, 7, 7, 7, 7, 6);
    }

    private static void badForms() {
        fault("", 0, 1);
        fault(",", 0, 1);
        fault("1,", 2, 1);
        fault("1,,2", 2, 1);
        fault(",1", 0, 1);
        fault("12345", 0, 1);
        fault("00000", 0, 1);
        fault("1x", 0, 1);
        fault("x2", 0, 1);
        fault("x", 0, 1);
        fault("1x2x3", 0, 1);
        fault("1xx2", 0, 1);
        fault("1x123", 0, 1);
        fault("1x001", 0, 1);
        fault("1X2", 0, 1);
        fault("-1", 0, 1);
        fault("+1", 0, 1);
        fault(" 1", 0, 1);
        fault("1 ", 0, 1);
        fault("1, 2", 2, 1);
        fault("1/2", 0, 1);
        fault("1:2", 0, 1);
        fault("1x/", 0, 1);
        fault("1x:", 0, 1);
        fault("1.5", 0, 1);
        fault("10;20", 0, 1);
        fault("10,20,3a,40", 6, 1);
    }

    private static void badRanges() {
        fault("5001", 0, 2);
        fault("9999", 0, 2);
        fault("1x0", 0, 2);
        fault("1x00", 0, 2);
        fault("1x25", 0, 2);
        fault("1x99", 0, 2);
        fault("5001x25", 0, 2);
        fault("10,20,6000", 6, 2);
    }

    private static void tooManyRows() {
        fault("1x24,2", 5, 3);
        fault("1x20,2x5", 5, 3);
        fault("1x12,2x12,3,4", 10, 3);
        fault("1,1,1,1,1,1,1,1,1,1,1,1,1,1,1,1,1,1,1,1,1,1,1,1,1", 48, 3);
    }

    private static void firstFault() {
        fault("1x24,5001", 5, 2);
        fault("1x24,1x25", 5, 2);
        fault("1x24,a", 5, 1);
        fault("5001x", 0, 1);
        fault("5001,a", 0, 2);
        fault("7,a,5001", 2, 1);
        fault("1x24,2,a", 5, 3);
        fault("1x24,2x3,5001", 5, 3);
    }

    private static void wrongFaults() {
        SoapFilm x = new SoapFilm();
        int[] wrong = {-1, 2, Integer.MIN_VALUE, Integer.MAX_VALUE};
        for (int what : wrong) {
            CHECK.due("fault(" + what + ") of a fault", x.fault(what), -1);
        }
        x.type('1');
        for (int what : wrong) {
            CHECK.due("fault(" + what + ") of no fault", x.fault(what), -1);
        }
        CHECK.due("count(11): asking is no change", x.count(11), 0);
        x.type(',');
        CHECK.due("fault(0) of a text that goes on", x.fault(0), 2);
        x.type('2');
        CHECK.due("fault(0) of a text that goes on", x.fault(0), -4);
    }

    private static void reading() {
        SoapFilm x = Check.filmOf("100x2,50");
        CHECK.accounts("read", x, 250, 250, 0, 0, 0, 0, 0);
        CHECK.due("the text stays", x.count(12), 8);
        CHECK.due("count(11)", x.count(11), 1);
        x.thin(0, 30);
        CHECK.due("read() again", x.read(), 3);
        CHECK.rows("read again", x, 100, 100, 50);
        CHECK.accounts("read again", x, 500, 250, 0, 0, 0, 0, 250);
        x.undo();
        CHECK.rows("behind undo", x, 70, 100, 50);
        CHECK.due("undo leaves the text", x.count(12), 8);
        x.type('x');
        CHECK.due("read() of a fault", x.read(), -2);
        CHECK.rows("behind a fault", x, 70, 100, 50);
        CHECK.accounts("behind a fault", x, 250, 220, 0, 0, 0, 0, 30);
        x.type('1');
        x.dip(1, 7, 0);
        CHECK.due("read() ahead of a shorter film", x.read(), 3);
        SoapFilm full = new SoapFilm();
        Check.typeAll(full, "5000,5000,5000,5000,5000,5000,5000,5000,5000,5000,");
        Check.typeAll(full, "4000x1,4000x1,4000x1,4000x1,4000x1,4000x1,3000x01");
        CHECK.due("a text of 99 characters", full.count(12), 99);
        CHECK.due("read() of it", full.read(), 17);
        CHECK.due("its liquid", full.count(21), 77000);
        full.type('x');
        CHECK.due("fault(0) at 100 characters", full.fault(0), 92);
    }
}
