/** Promises 1 to 9, and the terms they rest on: the film, a tick, the accounts, the history. */
public final class FilmTest {
    private static final int MIN = Integer.MIN_VALUE;
    private static final int MAX = Integer.MAX_VALUE;
    private static final Check CHECK = new Check();

    public static void main(String[] args) {
        newObject();
        settings();
        dipping();
        pouring();
        adding();
        thinning();
        cutting();
        going();
        goingToTheLastTick();
        draining();
        running();
        drying();
        dropFalling();
        burstingThin();
        burstingBlack();
        burstKeepsDrop();
        undoing();
        undoingEverythingButTheText();
        undoingBackToABurst();
        historyOfFive();
        errorsChangeNothing();
        CHECK.end("FilmTest");
    }

    private static void newObject() {
        SoapFilm x = new SoapFilm();
        int[] numbers = {0, 0, 0, 0, 0, -4, 0, -4, -4, 0, 0, 0, 0};
        for (int i = 0; i < numbers.length; i++) {
            CHECK.due("new: count(" + i + ")", x.count(i), numbers[i]);
        }
        CHECK.accounts("new", x, 0, 0, 0, 0, 0, 0, 0);
        int[] first = {20, 1, 10, 30, 5, 12, 3000};
        for (int i = 0; i < first.length; i++) {
            CHECK.due("new: count(" + (30 + i) + ")", x.count(30 + i), first[i]);
        }
    }

    private static void settings() {
        int[] first = {20, 1, 10, 30, 5, 12, 3000};
        int[] least = {0, 0, 0, 1, 0, 1, 1};
        int[] greatest = {100, 50, 500, 200, 100, 24, 100000};
        for (int i = 0; i < first.length; i++) {
            SoapFilm x = new SoapFilm();
            CHECK.due("set(" + i + ", below)", x.set(i, least[i] - 1), -1);
            CHECK.due("set(" + i + ", above)", x.set(i, greatest[i] + 1), -1);
            CHECK.due("set(" + i + ", MIN)", x.set(i, MIN), -1);
            CHECK.due("set(" + i + ", MAX)", x.set(i, MAX), -1);
            CHECK.due("count(11) behind wrong sets", x.count(11), 0);
            CHECK.due("set(" + i + ", least)", x.set(i, least[i]), first[i]);
            CHECK.due("set(" + i + ", greatest)", x.set(i, greatest[i]), least[i]);
            CHECK.due("set(" + i + ", the same)", x.set(i, greatest[i]), greatest[i]);
            CHECK.due("count behind set", x.count(30 + i), greatest[i]);
            CHECK.due("count(11) behind three sets", x.count(11), 3);
        }
        SoapFilm x = new SoapFilm();
        CHECK.due("set(-1, 1)", x.set(-1, 1), -1);
        CHECK.due("set(7, 1)", x.set(7, 1), -1);
        CHECK.due("set(MIN, 1)", x.set(MIN, 1), -1);
        CHECK.due("set(MAX, 1)", x.set(MAX, 1), -1);
    }

    private static void dipping() {
        SoapFilm x = new SoapFilm();
        CHECK.due("dip(3, 100, 50)", x.dip(3, 100, 50), 450);
        CHECK.rows("dip", x, 100, 150, 200);
        CHECK.due("dip(1, 0, 500)", x.dip(1, 0, 500), 0);
        CHECK.rows("dip again", x, 0);
        CHECK.accounts("dip again", x, 450, 0, 0, 0, 0, 0, 450);
        CHECK.due("dip(24, 5000, 0)", x.dip(24, 5000, 0), 120000);
        CHECK.due("dip(11, 0, 500)", x.dip(11, 0, 500), 27500);
        CHECK.due("row(10, 0)", x.row(10, 0), 5000);
        CHECK.due("dip(11, 1, 500)", x.dip(11, 1, 500), -1);
        CHECK.due("dip(2, 5000, 1)", x.dip(2, 5000, 1), -1);
        CHECK.due("dip(1, 5000, 500)", x.dip(1, 5000, 500), 5000);
        int[][] wrong = {{0, 1, 1}, {25, 1, 1}, {-1, 1, 1}, {2, -1, 1}, {2, 5001, 0}, {2, 1, -1},
            {2, 1, 501}, {24, 5000, 500}, {MIN, 0, 0}, {MAX, 0, 0}, {1, MAX, 0}, {1, 0, MAX},
            {24, 0, MAX}, {MAX, MAX, MAX}, {MIN, MIN, MIN}};
        for (int[] a : wrong) {
            CHECK.due("dip(" + a[0] + ", " + a[1] + ", " + a[2] + ")", x.dip(a[0], a[1], a[2]), -1);
        }
        CHECK.rows("behind wrong dips", x, 5000);
    }

    private static void pouring() {
        SoapFilm x = new SoapFilm();
        CHECK.due("pour(0, 1) without a film", x.pour(0, 1), -1);
        x = Check.filmOf("10,20");
        CHECK.due("pour(1, 30)", x.pour(1, 30), 50);
        CHECK.due("pour(0, 4990)", x.pour(0, 4990), 5000);
        CHECK.due("pour(0, 1)", x.pour(0, 1), -3);
        CHECK.due("pour(1, 4951)", x.pour(1, 4951), -3);
        CHECK.rows("pour", x, 5000, 50);
        CHECK.accounts("pour", x, 5050, 5050, 0, 0, 0, 0, 0);
        CHECK.due("pour(0, 0)", x.pour(0, 0), -1);
        CHECK.due("pour(0, 5001)", x.pour(0, 5001), -1);
        CHECK.due("pour(2, 1)", x.pour(2, 1), -1);
        CHECK.due("pour(-1, 1)", x.pour(-1, 1), -1);
        CHECK.due("pour(0, MAX)", x.pour(0, MAX), -1);
        CHECK.due("pour(MIN, MIN)", x.pour(MIN, MIN), -1);
        CHECK.due("pour(MAX, 1)", x.pour(MAX, 1), -1);
        CHECK.due("count(11)", x.count(11), 3);
        x = Check.filmOf("0");
        CHECK.due("pour(0, 5000)", x.pour(0, 5000), 5000);
    }

    private static void adding() {
        SoapFilm x = new SoapFilm();
        CHECK.due("add(0) without a film", x.add(0), -2);
        CHECK.due("add(5001) without a film", x.add(5001), -1);
        x = Check.filmOf("10x22");
        CHECK.due("add(5000)", x.add(5000), 23);
        CHECK.due("add(0)", x.add(0), 24);
        CHECK.due("add(1)", x.add(1), -3);
        CHECK.due("add(-1)", x.add(-1), -1);
        CHECK.due("add(5001)", x.add(5001), -1);
        CHECK.due("add(MAX)", x.add(MAX), -1);
        CHECK.due("row(22, 0)", x.row(22, 0), 5000);
        CHECK.due("row(23, 0)", x.row(23, 0), 0);
        CHECK.accounts("add", x, 5220, 5220, 0, 0, 0, 0, 0);
        CHECK.due("count(11)", x.count(11), 3);
    }

    private static void thinning() {
        SoapFilm x = new SoapFilm();
        CHECK.due("thin(0, 1) without a film", x.thin(0, 1), -1);
        x = Check.filmOf("100,200");
        CHECK.due("thin(1, 50)", x.thin(1, 50), 50);
        CHECK.due("thin(0, 5000)", x.thin(0, 5000), 100);
        CHECK.due("thin(0, 1) of nothing", x.thin(0, 1), 0);
        CHECK.rows("thin", x, 0, 150);
        CHECK.accounts("thin", x, 300, 150, 0, 0, 0, 0, 150);
        CHECK.due("count(11)", x.count(11), 4);
        CHECK.due("thin(0, 0)", x.thin(0, 0), -1);
        CHECK.due("thin(0, 5001)", x.thin(0, 5001), -1);
        CHECK.due("thin(2, 1)", x.thin(2, 1), -1);
        CHECK.due("thin(-1, 1)", x.thin(-1, 1), -1);
        CHECK.due("thin(1, MIN)", x.thin(1, MIN), -1);
        CHECK.due("thin(MAX, 1)", x.thin(MAX, 1), -1);
        CHECK.due("count(11) behind wrong calls", x.count(11), 4);
    }

    private static void cutting() {
        SoapFilm x = new SoapFilm();
        CHECK.due("cut() without a film", x.cut(), -2);
        x = Check.filmOf("100,200,5000");
        CHECK.due("cut()", x.cut(), 5000);
        CHECK.due("cut()", x.cut(), 200);
        CHECK.due("cut() of the only row", x.cut(), -2);
        CHECK.rows("cut", x, 100);
        CHECK.accounts("cut", x, 5300, 100, 0, 0, 0, 0, 5200);
        CHECK.due("count(11)", x.count(11), 3);
    }

    private static void going() {
        SoapFilm x = new SoapFilm();
        CHECK.due("go(7) without a film", x.go(7), 0);
        CHECK.due("count(1)", x.count(1), 7);
        CHECK.due("count(11)", x.count(11), 1);
        CHECK.due("go(0)", x.go(0), -1);
        CHECK.due("go(1001)", x.go(1001), -1);
        CHECK.due("go(-1)", x.go(-1), -1);
        CHECK.due("go(MIN)", x.go(MIN), -1);
        CHECK.due("go(MAX)", x.go(MAX), -1);
        CHECK.due("count(1) behind wrong calls", x.count(1), 7);
        x = Check.filmOf("8", 0, 1, 0, 1, 5, 24, 3000);
        CHECK.due("go(2)", x.go(2), 2);
        CHECK.rows("go(2)", x, 6);
        CHECK.due("go(1000) with a burst", x.go(1000), 2);
        CHECK.due("count(1)", x.count(1), 1002);
        CHECK.due("count(8)", x.count(8), 3);
    }

    private static void goingToTheLastTick() {
        SoapFilm x = new SoapFilm();
        for (int i = 0; i < 99; i++) {
            CHECK.due("go(1000)", x.go(1000), 0);
        }
        CHECK.due("go(999)", x.go(999), 0);
        x.dip(1, 1000, 0);
        x.set(0, 0);
        CHECK.due("go(2) over the last tick", x.go(2), -3);
        CHECK.due("go(1001) over the last tick", x.go(1001), -1);
        CHECK.due("count(1)", x.count(1), 99999);
        CHECK.due("until beyond the last tick", x.until(0, 0), 996);
        CHECK.due("ifGo beyond the last tick", x.ifGo(0, 10), 990);
        CHECK.due("go(1) to the last tick", x.go(1), 1);
        CHECK.due("go(1) from the last tick", x.go(1), -3);
        CHECK.due("count(1)", x.count(1), 100000);
        CHECK.rows("at the last tick", x, 999);
    }

    /** Settings: slope, drying, running, black limit, least thickness, most black rows, drop. */
    private static void draining() {
        SoapFilm x = Check.filmOf("1000,1000", 100, 0, 0, 1, 0, 24, 100000);
        x.go(1);
        CHECK.rows("the last row gives first", x, 900, 1000);
        CHECK.due("the drop", x.count(22), 100);
        x = Check.filmOf("99,100,0", 100, 0, 0, 1, 0, 24, 100000);
        x.go(1);
        CHECK.rows("rounded down", x, 99, 99, 1);
        x = Check.filmOf("5000x3", 100, 0, 0, 1, 0, 24, 100000);
        x.go(1);
        CHECK.rows("the greatest numbers", x, 2500, 5000, 5000);
        CHECK.due("the drop", x.count(22), 2500);
        x = Check.filmOf("3000,2000,1000", 7, 0, 0, 1, 0, 24, 100000);
        x.go(1);
        CHECK.rows("slope 7", x, 2937, 2035, 1021);
        CHECK.due("the drop", x.count(22), 7);
        x = Check.filmOf("5000", 0, 0, 0, 1, 0, 24, 100000);
        x.go(1000);
        CHECK.rows("no slope", x, 5000);
        // 2329 * 2329 * 99 is 536999859
        x = Check.filmOf("2329", 99, 0, 0, 1, 0, 24, 100000);
        x.go(1);
        CHECK.rows("just not 537", x, 1793);
    }

    private static void running() {
        SoapFilm x = Check.filmOf("0,1000,4990", 0, 0, 500, 30, 0, 24, 100000);
        x.go(1);
        CHECK.rows("no more than there is room for", x, 0, 990, 5000);
        x = Check.filmOf("0,1000", 0, 0, 400, 30, 0, 24, 100000);
        x.go(1);
        CHECK.rows("the last row into the drop", x, 0, 600);
        x.go(2);
        CHECK.rows("at most its thickness", x, 0, 0);
        CHECK.due("the drop", x.count(22), 1000);
        x = Check.filmOf("0,40,0,100", 0, 0, 50, 30, 0, 24, 100000);
        x.go(1);
        CHECK.rows("a row that was black when the running began", x, 0, 0, 40, 50);
        x = Check.filmOf("0,40,100", 0, 0, 50, 30, 0, 24, 100000);
        x.go(1);
        CHECK.rows("a row that has become black by running", x, 0, 0, 140);
        x = Check.filmOf("203,1000", 100, 0, 10, 200, 0, 24, 100000);
        x.go(1);
        CHECK.rows("a row that has become black by draining", x, 199, 894);
        CHECK.due("the drop", x.count(22), 110);
        x = Check.filmOf("29,29,30,30", 0, 0, 10, 30, 0, 24, 100000);
        x.go(1);
        CHECK.rows("black is below the limit", x, 29, 29, 20, 40);
        x = Check.filmOf("30,100,29", 0, 0, 10, 30, 0, 24, 100000);
        x.go(1);
        CHECK.rows("no black row above", x, 30, 100, 29);
        x = Check.filmOf("10,20", 0, 0, 10, 30, 0, 24, 100000);
        x.go(1);
        CHECK.rows("a black last row below a black row", x, 10, 20);
        x = Check.filmOf("20x24", 0, 0, 10, 30, 0, 24, 100000);
        x.go(1);
        CHECK.due("24 black rows give nothing", x.count(22), 0);
        CHECK.due("24 black rows", x.count(2), 24);
    }

    private static void drying() {
        SoapFilm x = Check.filmOf("100,3,0", 0, 5, 0, 1, 0, 24, 100000);
        x.go(1);
        CHECK.rows("drying", x, 95, 0, 0);
        CHECK.accounts("drying", x, 103, 95, 0, 0, 8, 0, 0);
        x = Check.filmOf("200,250", 0, 50, 0, 1, 0, 24, 100000);
        x.go(4);
        CHECK.rows("drying four times", x, 0, 50);
        CHECK.due("dried", x.count(24), 400);
        x = Check.filmOf("1000", 100, 50, 0, 1, 0, 24, 100000);
        x.go(1);
        CHECK.rows("drying comes behind draining", x, 850);
    }

    private static void dropFalling() {
        SoapFilm x = Check.filmOf("1000", 100, 0, 0, 1, 0, 24, 100);
        x.go(1);
        CHECK.due("drops when just full", x.count(10), 1);
        CHECK.accounts("drop just full", x, 1000, 900, 0, 100, 0, 0, 0);
        x = Check.filmOf("1000", 100, 0, 0, 1, 0, 24, 101);
        x.go(1);
        CHECK.due("drops when not yet full", x.count(10), 0);
        CHECK.accounts("drop not yet full", x, 1000, 900, 100, 0, 0, 0, 0);
        x.go(1);
        CHECK.due("drops when more than full", x.count(10), 1);
        CHECK.accounts("drop more than full", x, 1000, 819, 0, 181, 0, 0, 0);
        x = Check.filmOf("5000", 100, 0, 0, 1, 0, 24, 1);
        x.go(1);
        CHECK.due("all of it is one drop", x.count(10), 1);
        CHECK.due("fallen", x.count(23), 2500);
    }

    private static void burstingThin() {
        SoapFilm x = Check.filmOf("100,6,6", 0, 1, 0, 1, 5, 24, 100000);
        x.go(1);
        CHECK.rows("as thick as the least", x, 99, 5, 5);
        CHECK.due("bursts", x.count(9), 0);
        x.go(3);
        CHECK.rows("burst", x);
        CHECK.due("reason", x.count(6), 1);
        CHECK.due("first such row", x.count(7), 1);
        CHECK.due("ticks ahead of it", x.count(8), 1);
        CHECK.due("bursts", x.count(9), 1);
        CHECK.due("tick", x.count(1), 4);
        CHECK.accounts("burst", x, 112, 0, 0, 0, 6, 106, 0);
        x.dip(2, 50, 0);
        CHECK.due("reason with a new film", x.count(6), 1);
        CHECK.due("row with a new film", x.count(7), 1);
        x.thin(0, 50);
        x.go(1);
        CHECK.due("the latest burst's row", x.count(7), 0);
        CHECK.due("ticks ahead of the latest burst", x.count(8), 4);
        CHECK.due("bursts", x.count(9), 2);
        x = Check.filmOf("0,0", 0, 0, 0, 1, 0, 24, 100000);
        CHECK.due("no least thickness, no burst", x.go(1000), 1000);
        CHECK.due("bursts", x.count(9), 0);
    }

    private static void burstingBlack() {
        SoapFilm x = Check.filmOf("29,29,30", 0, 0, 0, 30, 5, 2, 100000);
        x.go(1);
        CHECK.due("as many black rows as may be", x.count(9), 0);
        x.thin(2, 1);
        x.go(1);
        CHECK.due("bursts", x.count(9), 1);
        CHECK.due("reason", x.count(6), 2);
        CHECK.due("black rows", x.count(7), 3);
        CHECK.due("ticks ahead of it", x.count(8), 1);
        CHECK.accounts("burst", x, 88, 0, 0, 0, 0, 87, 1);
        x = Check.filmOf("29,4,2", 0, 0, 0, 30, 5, 2, 100000);
        x.go(1);
        CHECK.due("too thin goes before too black", x.count(6), 1);
        CHECK.due("its row", x.count(7), 1);
        x = Check.filmOf("31,31", 0, 2, 0, 30, 5, 1, 100000);
        x.go(1);
        CHECK.due("black by drying", x.count(7), 2);
        x = Check.filmOf("29x2", 0, 0, 0, 30, 5, 1, 100000);
        CHECK.due("no burst before a tick", x.count(0), 2);
    }

    private static void burstKeepsDrop() {
        SoapFilm x = Check.filmOf("1000,3", 100, 0, 0, 1, 5, 24, 1000);
        x.go(1);
        x.dip(2, 1000, 0);
        x.thin(0, 1000);
        x.go(1);
        CHECK.rows("burst", x);
        CHECK.due("the drop stays", x.count(22), 100);
        x.set(6, 1);
        x.go(10);
        CHECK.due("without a film it does not fall", x.count(22), 100);
        CHECK.due("drops", x.count(10), 0);
        x.dip(1, 5000, 0);
        CHECK.due("not before a tick", x.count(10), 0);
        x.go(1);
        CHECK.due("drops with a film", x.count(10), 1);
        CHECK.due("fallen", x.count(23), 2600);
        x = Check.filmOf("1000,4", 0, 0, 500, 30, 5, 24, 1);
        x.thin(0, 1000);
        x.pour(1, 996);
        x.go(1);
        CHECK.due("a drop falls ahead of the burst of its tick", x.count(10), 1);
        CHECK.accounts("drop and burst", x, 2000, 0, 0, 500, 0, 500, 1000);
    }

    private static void undoing() {
        SoapFilm x = new SoapFilm();
        CHECK.due("undo() of nothing", x.undo(), -2);
        x.dip(2, 100, 0);
        x.pour(0, 50);
        x.add(70);
        CHECK.due("undo() of add", x.undo(), 2);
        CHECK.rows("behind undo of add", x, 150, 100);
        CHECK.due("undo() of pour", x.undo(), 1);
        CHECK.rows("behind undo of pour", x, 100, 100);
        CHECK.accounts("behind undo of pour", x, 200, 200, 0, 0, 0, 0, 0);
        CHECK.due("undo() of dip", x.undo(), 0);
        CHECK.rows("behind undo of dip", x);
        CHECK.accounts("behind undo of dip", x, 0, 0, 0, 0, 0, 0, 0);
        CHECK.due("undo() of nothing more", x.undo(), -2);
    }

    private static void undoingEverythingButTheText() {
        SoapFilm x = Check.filmOf("1000,500", 100, 3, 7, 20, 4, 9, 80);
        x.go(3);
        int[] before = new int[40];
        for (int i = 0; i < before.length; i++) {
            before[i] = x.count(i);
        }
        int top = x.row(0, 0);
        int bottom = x.row(1, 0);
        x.set(4, 100);
        CHECK.due("go(1000)", x.go(1000) < 1000 ? 1 : 0, 1);
        x.clearText();
        x.type('7');
        CHECK.due("undo()", x.undo(), 4);
        CHECK.due("undo()", x.undo(), 3);
        for (int i = 0; i < before.length; i++) {
            int due = i == 11 ? 3 : i == 12 ? 1 : before[i];
            CHECK.due("behind undo: count(" + i + ")", x.count(i), due);
        }
        CHECK.rows("behind undo", x, top, bottom);
        CHECK.due("the text", x.read(), 1);
        CHECK.rows("read of the text", x, 7);
        x.undo();
        CHECK.rows("behind undo of read", x, top, bottom);
        x.thin(1, 5000);
        x.undo();
        x.cut();
        x.undo();
        CHECK.rows("behind undo of thin and of cut", x, top, bottom);
    }

    private static void undoingBackToABurst() {
        SoapFilm x = Check.filmOf("100,6", 0, 1, 0, 30, 5, 24, 100000);
        x.go(2);
        x.dip(3, 20, 0);
        x.set(5, 1);
        x.go(1);
        int[] latest = {2, 3, 2, 2};
        int[] before = {1, 1, 1, 1};
        for (int i = 0; i < latest.length; i++) {
            CHECK.due("the latest burst: count(" + (6 + i) + ")", x.count(6 + i), latest[i]);
        }
        x.undo();
        for (int i = 0; i < before.length; i++) {
            CHECK.due("the burst before: count(" + (6 + i) + ")", x.count(6 + i), before[i]);
        }
        CHECK.rows("the film ahead of the latest burst", x, 20, 20, 20);
    }

    private static void historyOfFive() {
        SoapFilm x = new SoapFilm();
        for (int i = 1; i <= 9; i++) {
            x.set(2, i);
            CHECK.due("states behind change " + i, x.count(11), Math.min(i, 5));
        }
        for (int i = 0; i < 5; i++) {
            CHECK.due("undo()", x.undo(), 4 - i);
            CHECK.due("running behind undo", x.count(32), 8 - i);
        }
        CHECK.due("undo()", x.undo(), -2);
        x.set(2, 77);
        CHECK.due("undo()", x.undo(), 0);
        CHECK.due("running", x.count(32), 4);
    }

    private static void errorsChangeNothing() {
        SoapFilm x = Check.filmOf("5000x24");
        int[] answers = {x.set(0, 101), x.dip(0, 0, 0), x.pour(0, 1), x.add(1), x.thin(24, 1), x.go(0)};
        int[] due = {-1, -1, -3, -3, -1, -1};
        for (int i = 0; i < due.length; i++) {
            CHECK.due("wrong call " + i, answers[i], due[i]);
        }
        x.clearText();
        CHECK.due("read() of no text", x.read(), -2);
        CHECK.due("states", x.count(11), 1);
        CHECK.accounts("behind errors", x, 120000, 120000, 0, 0, 0, 0, 0);
        x.row(0, 0);
        x.count(0);
        x.ladder(0);
        x.find(0, 0);
        x.colourOf(0);
        x.thicknessFor(0, 0);
        x.until(0, 0);
        x.ifGo(0, 1);
        x.type('1');
        x.fault(0);
        CHECK.due("states behind calls that are no changes", x.count(11), 1);
        CHECK.due("undo()", x.undo(), 0);
        CHECK.due("undo is no change", x.undo(), -2);
    }
}
