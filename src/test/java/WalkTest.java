/**
 * Long walks of calls, the same ones every time, beside PlainFilm; and laws that must hold on the
 * way, whatever the two have in common: the accounts add up, a question is answered as the film
 * then really goes, and undo brings everything back.
 */
public final class WalkTest {
    private static final int[] WILD = {
        Integer.MIN_VALUE, Integer.MIN_VALUE + 1, -5001, -2, -1, 0, 1, 2, 5, 7, 8, 23, 24, 25, 50,
        99, 100, 101, 500, 501, 1000, 1001, 4999, 5000, 5001, 100000, 100001,
        Integer.MAX_VALUE - 1, Integer.MAX_VALUE};
    private static final String SIGNS = "0123456789,,,xx05 X.-";
    /** No object gets more than 512 calls: what it answers then is free. */
    private static final int STEPS_OF_A_WALK = 410;
    private static final int STEPS_UNDER_LAWS = 72;
    private static final int STEPS_BETWEEN_LAWS = 10;
    private static final Check CHECK = new Check();

    private long seed;
    private SoapFilm film;
    private PlainFilm plain;

    public static void main(String[] args) {
        for (int walk = 0; walk < 750 && !CHECK.isWrong(); walk++) {
            new WalkTest().walk(walk);
        }
        for (int walk = 0; walk < 1200 && !CHECK.isWrong(); walk++) {
            new WalkTest().keepLaws(walk);
        }
        CHECK.end("WalkTest");
    }

    private int below(int bound) {
        seed = seed * 6364136223846793005L + 1442695040888963407L;
        return (int) ((seed >>> 33) % bound);
    }

    private int from(int least, int greatest) {
        return below(12) == 0 ? WILD[below(WILD.length)] : least + below(greatest - least + 1);
    }

    private void begin(int walk) {
        seed = walk * 7919L + 17;
        film = new SoapFilm();
        plain = new PlainFilm();
        below(2);
    }

    private void walk(int walk) {
        begin(walk);
        boolean calm = walk % 3 != 0;
        for (int i = 0; i < STEPS_OF_A_WALK && !CHECK.isWrong(); i++) {
            String name = "walk " + walk + ", call " + i + ": ";
            int call = below(100);
            if (call < 40) {
                change(name, call, calm);
            } else if (call < 75) {
                look(name, call);
            } else if (call < 82) {
                ask(name, call);
            } else {
                write(name, call);
            }
        }
        whole("walk " + walk);
    }

    private void change(String name, int call, boolean calm) {
        int a = from(0, 6);
        int row = from(0, (int) plain.count(0));
        if (call < 8) {
            int value = from(new int[] {0, 0, 0, 1, 0, 1, 1}[Math.floorMod(a, 7)],
                    new int[] {100, calm ? 3 : 50, 500, 200, calm ? 5 : 100, 24, 9000}[Math.floorMod(a, 7)]);
            CHECK.due(name + "set(" + a + ", " + value + ")", film.set(a, value), plain.set(a, value));
        } else if (call < 12) {
            int rows = from(1, 24);
            int top = from(0, calm ? 2000 : 5000);
            int more = from(0, calm ? 130 : 500);
            CHECK.due(name + "dip(" + rows + ", " + top + ", " + more + ")",
                    film.dip(rows, top, more), plain.dip(rows, top, more));
        } else if (call < 16) {
            int amount = from(1, 2500);
            CHECK.due(name + "pour(" + row + ", " + amount + ")", film.pour(row, amount), plain.pour(row, amount));
        } else if (call < 20) {
            int thickness = from(0, 5000);
            CHECK.due(name + "add(" + thickness + ")", film.add(thickness), plain.add(thickness));
        } else if (call < 24) {
            int amount = from(1, 700);
            CHECK.due(name + "thin(" + row + ", " + amount + ")", film.thin(row, amount), plain.thin(row, amount));
        } else if (call < 26) {
            CHECK.due(name + "cut()", film.cut(), plain.cut());
        } else if (call < 35) {
            int ticks = from(1, calm ? 30 : 300);
            CHECK.due(name + "go(" + ticks + ")", film.go(ticks), plain.go(ticks));
        } else {
            CHECK.due(name + "undo()", film.undo(), plain.undo());
        }
    }

    private void look(String name, int call) {
        int row = from(0, (int) plain.count(0));
        if (call < 50) {
            int what = from(-1, 8);
            CHECK.due(name + "row(" + row + ", " + what + ")", film.row(row, what), plain.row(row, what));
        } else if (call < 60) {
            int what = from(-1, 37);
            CHECK.due(name + "count(" + what + ")", film.count(what), plain.count(what));
        } else if (call < 64) {
            CHECK.due(name + "ladder(" + row + ")", film.ladder(row), plain.ladder(row));
        } else if (call < 68) {
            int colour = from(0, 7);
            CHECK.due(name + "find(" + colour + ", " + row + ")", film.find(colour, row), plain.find(colour, row));
        } else if (call < 72) {
            int thickness = from(0, 5000);
            CHECK.due(name + "colourOf(" + thickness + ")", film.colourOf(thickness), plain.colourOf(thickness));
        } else {
            int colour = from(0, 7);
            int thickness = from(0, 5000);
            CHECK.due(name + "thicknessFor(" + colour + ", " + thickness + ")",
                    film.thicknessFor(colour, thickness), plain.thicknessFor(colour, thickness));
        }
    }

    private void ask(String name, int call) {
        if (call < 79) {
            int what = from(0, 3);
            int value = what == 0 ? from(0, 0) : from(1, what == 3 ? 12 : 7);
            CHECK.due(name + "until(" + what + ", " + value + ")", film.until(what, value), plain.until(what, value));
        } else {
            int row = from(0, (int) plain.count(0));
            int ticks = from(1, 200);
            CHECK.due(name + "ifGo(" + row + ", " + ticks + ")", film.ifGo(row, ticks), plain.ifGo(row, ticks));
        }
    }

    private void write(String name, int call) {
        if (call < 92) {
            int sign = below(40) == 0 ? WILD[below(WILD.length)] : SIGNS.charAt(below(SIGNS.length() - below(5)));
            CHECK.due(name + "type(" + sign + ")", film.type(sign), plain.type(sign));
        } else if (call < 93) {
            CHECK.due(name + "clearText()", film.clearText(), plain.clearText());
        } else if (call < 97) {
            int what = from(0, 1);
            CHECK.due(name + "fault(" + what + ")", film.fault(what), plain.fault(what));
        } else {
            CHECK.due(name + "read()", film.read(), plain.read());
        }
    }

    private void whole(String name) {
        for (int what = -1; what < 40; what++) {
            CHECK.due(name + ": count(" + what + ")", film.count(what), plain.count(what));
        }
        for (int row = -1; row < 25; row++) {
            CHECK.due(name + ": row(" + row + ", 0)", film.row(row, 0), plain.row(row, 0));
            CHECK.due(name + ": row(" + row + ", 5)", film.row(row, 5), plain.row(row, 5));
        }
    }

    private void keepLaws(int walk) {
        begin(walk);
        for (int i = 1; i <= STEPS_UNDER_LAWS && !CHECK.isWrong(); i++) {
            String name = "law " + walk + ", step " + i;
            change(name, below(40), true);
            if (i % STEPS_BETWEEN_LAWS == 0) {
                accountsAddUp(name);
                untilComesTrue(name);
                ifGoComesTrue(name);
            }
        }
    }

    private void accountsAddUp(String name) {
        long sum = 0;
        for (int i = 21; i <= 26; i++) {
            sum += film.count(i);
        }
        CHECK.due(name + ": the sum of the accounts", sum, film.count(20));
        long thickness = 0;
        int rows = film.count(0);
        for (int i = 0; i < rows; i++) {
            thickness += film.row(i, 0);
        }
        CHECK.due(name + ": the account of the film", film.count(21), thickness);
    }

    private void untilComesTrue(String name) {
        int ticks = film.until(0, 0);
        if (ticks > 0) {
            CHECK.due(name + ": go(until)", film.go(ticks), ticks);
            plain.go(ticks);
            CHECK.due(name + ": rows behind until", film.count(0), 0);
            CHECK.due(name + ": ticks ahead of the burst", film.count(8), film.count(1) - 1);
            goBack(name);
        }
        int before = film.count(10);
        ticks = film.until(3, 2);
        if (ticks > 0) {
            film.go(ticks);
            plain.go(ticks);
            CHECK.due(name + ": drops behind until", film.count(10), before + 2);
            goBack(name);
        }
        CHECK.due(name + ": undo brought the drops back", film.count(10), before);
    }

    private void ifGoComesTrue(String name) {
        if (film.count(0) == 0) {
            return;
        }
        int ticks = 1 + below(20);
        int row = below(film.count(0));
        int before = film.row(row, 0);
        int told = film.ifGo(row, ticks);
        film.go(ticks);
        plain.go(ticks);
        CHECK.due(name + ": ifGo", told, film.count(0) == 0 ? -4 : film.row(row, 0));
        goBack(name);
        CHECK.due(name + ": undo brought the row back", film.row(row, 0), before);
    }

    private void goBack(String name) {
        CHECK.due(name + ": undo()", film.undo(), plain.undo());
    }
}
