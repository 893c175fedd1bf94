/**
 * An upright soap film as a ladder of colours. The document ../shared/DOC.md says what each call
 * does; its answers below zero are the errors named here.
 */
public final class SoapFilm {
    public static final int INVALID_ARGUMENT = -1;
    public static final int NOT_POSSIBLE = -2;
    public static final int LIMIT_REACHED = -3;
    public static final int NOT_FOUND = -4;

    private static final int MOST_ROWS = 24;
    private static final int MOST_THICKNESS = 5000;
    private static final int MOST_MORE = 500;
    private static final int MOST_TICKS = 1000;
    private static final int LAST_TICK = 100000;
    private static final int MOST_DROPS_ASKED = 100;
    private static final int LAST_COLOUR = 7;

    private static final int SLOPE = 0;
    private static final int DRYING = 1;
    private static final int RUNNING = 2;
    private static final int BLACK_LIMIT = 3;
    private static final int LEAST_THICKNESS = 4;
    private static final int MOST_BLACK_ROWS = 5;
    private static final int DROP_HOLDS = 6;
    private static final int SETTINGS = 7;
    private static final int[] FIRST_SETTING = {20, 1, 10, 30, 5, 12, 3000};
    private static final int[] LEAST_SETTING = {0, 0, 0, 1, 0, 1, 1};
    private static final int[] GREATEST_SETTING = {100, 50, 500, 200, 100, 24, 100000};

    private static final int BROUGHT = 0;
    private static final int IN_FILM = 1;
    private static final int IN_DROP = 2;
    private static final int FALLEN = 3;
    private static final int DRIED = 4;
    private static final int LOST = 5;
    private static final int TAKEN = 6;
    private static final int ACCOUNTS = 7;

    private static final int BURST_TOO_THIN = 1;
    private static final int BURST_TOO_BLACK = 2;

    private static final int COUNT_ACCOUNTS = 20;
    private static final int COUNT_SETTINGS = 30;

    private static final int UNTIL_NO_FILM = 0;
    private static final int UNTIL_BLACK_ROWS = 1;
    private static final int UNTIL_TOP_COLOUR = 2;
    private static final int UNTIL_DROPS = 3;

    private final Film film = new Film();
    /** Questions are tried out on this one, so that asking makes no object. */
    private final Film trial = new Film();
    private final History history = new History();
    private final FilmText text = new FilmText();

    public SoapFilm() {
    }

    // ---- film

    public int set(int what, int value) {
        if (what < 0 || what >= SETTINGS) {
            return INVALID_ARGUMENT;
        }
        if (!isBetween(value, LEAST_SETTING[what], GREATEST_SETTING[what])) {
            return INVALID_ARGUMENT;
        }
        history.keep(film);
        int previous = film.settings[what];
        film.settings[what] = value;
        return previous;
    }

    public int dip(int rows, int top, int more) {
        if (!isBetween(rows, 1, MOST_ROWS) || !isThickness(top) || !isBetween(more, 0, MOST_MORE)) {
            return INVALID_ARGUMENT;
        }
        if (!isThickness(top + more * (rows - 1))) {
            return INVALID_ARGUMENT;
        }
        history.keep(film);
        film.takeAway();
        for (int i = 0; i < rows; i++) {
            film.appendRow(top + more * i);
        }
        return film.accounts[IN_FILM];
    }

    public int pour(int row, int amount) {
        if (!film.hasRow(row) || !isBetween(amount, 1, MOST_THICKNESS)) {
            return INVALID_ARGUMENT;
        }
        if (!isThickness(film.thickness[row] + amount)) {
            return LIMIT_REACHED;
        }
        history.keep(film);
        film.thickness[row] += amount;
        film.bring(amount);
        return film.thickness[row];
    }

    public int add(int thickness) {
        if (!isThickness(thickness)) {
            return INVALID_ARGUMENT;
        }
        if (film.rows == 0) {
            return NOT_POSSIBLE;
        }
        if (film.rows == MOST_ROWS) {
            return LIMIT_REACHED;
        }
        history.keep(film);
        film.appendRow(thickness);
        return film.rows;
    }

    public int thin(int row, int amount) {
        if (!film.hasRow(row) || !isBetween(amount, 1, MOST_THICKNESS)) {
            return INVALID_ARGUMENT;
        }
        history.keep(film);
        return film.loseFrom(row, amount, TAKEN);
    }

    public int cut() {
        if (film.rows < 2) {
            return NOT_POSSIBLE;
        }
        history.keep(film);
        int taken = film.loseFrom(film.rows - 1, MOST_THICKNESS, TAKEN);
        film.rows--;
        return taken;
    }

    public int go(int ticks) {
        if (!isBetween(ticks, 1, MOST_TICKS)) {
            return INVALID_ARGUMENT;
        }
        if (film.ticks + ticks > LAST_TICK) {
            return LIMIT_REACHED;
        }
        history.keep(film);
        int withFilm = 0;
        for (int i = 0; i < ticks; i++) {
            if (film.rows > 0) {
                withFilm++;
            }
            film.tick();
        }
        return withFilm;
    }

    public int undo() {
        if (history.size == 0) {
            return NOT_POSSIBLE;
        }
        history.restore(film);
        return history.size;
    }

    // ---- looking

    public int row(int row, int what) {
        if (!film.hasRow(row)) {
            return INVALID_ARGUMENT;
        }
        int thickness = film.thickness[row];
        int path = Light.path(thickness);
        switch (what) {
            case 0:
                return thickness;
            case 1:
                return path;
            case 2:
                return Light.red(path);
            case 3:
                return Light.green(path);
            case 4:
                return Light.blue(path);
            case 5:
                return film.colourAt(row);
            case 6:
                return Light.order(path);
            case 7:
                return film.isBlack(row) ? 1 : 0;
            default:
                return INVALID_ARGUMENT;
        }
    }

    public int count(int what) {
        if (isBetween(what, COUNT_ACCOUNTS, COUNT_ACCOUNTS + ACCOUNTS - 1)) {
            return film.accounts[what - COUNT_ACCOUNTS];
        }
        if (isBetween(what, COUNT_SETTINGS, COUNT_SETTINGS + SETTINGS - 1)) {
            return film.settings[what - COUNT_SETTINGS];
        }
        switch (what) {
            case 0:
                return film.rows;
            case 1:
                return film.ticks;
            case 2:
                return film.blackRows();
            case 3:
                return film.fringes();
            case 4:
                return film.differentColours();
            case 5:
                return film.rows == 0 ? NOT_FOUND : film.greatestOrder();
            case 6:
                return film.burstReason;
            case 7:
                return film.bursts == 0 ? NOT_FOUND : film.burstNumber;
            case 8:
                return film.bursts == 0 ? NOT_FOUND : film.ticksBeforeBurst;
            case 9:
                return film.bursts;
            case 10:
                return film.drops;
            case 11:
                return history.size;
            case 12:
                return text.length;
            default:
                return INVALID_ARGUMENT;
        }
    }

    public int ladder(int index) {
        if (index < 0) {
            return INVALID_ARGUMENT;
        }
        int place = 0;
        for (int i = 0; i < film.rows; i++) {
            if (film.startsColour(i)) {
                if (place == index) {
                    return film.colourAt(i);
                }
                place++;
            }
        }
        return NOT_FOUND;
    }

    public int find(int colour, int from) {
        if (!isColour(colour) || from < 0) {
            return INVALID_ARGUMENT;
        }
        for (int i = from; i < film.rows; i++) {
            if (film.colourAt(i) == colour) {
                return i;
            }
        }
        return NOT_FOUND;
    }

    public int colourOf(int thickness) {
        if (!isThickness(thickness)) {
            return INVALID_ARGUMENT;
        }
        return Light.colour(thickness, film.settings[BLACK_LIMIT]);
    }

    public int thicknessFor(int colour, int thickness) {
        if (!isColour(colour) || !isThickness(thickness)) {
            return INVALID_ARGUMENT;
        }
        for (int i = thickness; i <= MOST_THICKNESS; i++) {
            if (Light.colour(i, film.settings[BLACK_LIMIT]) == colour) {
                return i;
            }
        }
        return NOT_FOUND;
    }

    // ---- questions (nothing changes)

    public int until(int what, int value) {
        if (!isQuestion(what, value)) {
            return INVALID_ARGUMENT;
        }
        trial.copyFrom(film);
        if (isSo(what, value)) {
            return 0;
        }
        for (int ticks = 1; ticks <= MOST_TICKS && trial.rows > 0; ticks++) {
            trial.tick();
            if (isSo(what, value)) {
                return ticks;
            }
        }
        return NOT_FOUND;
    }

    public int ifGo(int row, int ticks) {
        if (!film.hasRow(row) || !isBetween(ticks, 1, MOST_TICKS)) {
            return INVALID_ARGUMENT;
        }
        trial.copyFrom(film);
        for (int i = 0; i < ticks && trial.rows > 0; i++) {
            trial.tick();
        }
        return trial.hasRow(row) ? trial.thickness[row] : NOT_FOUND;
    }

    // ---- texts

    public int type(int character) {
        if (!isBetween(character, FilmText.FIRST_SIGN, FilmText.LAST_SIGN)) {
            return INVALID_ARGUMENT;
        }
        if (text.length == FilmText.MOST_SIGNS) {
            return LIMIT_REACHED;
        }
        text.append((char) character);
        return text.length;
    }

    public int clearText() {
        int length = text.length;
        text.length = 0;
        return length;
    }

    public int fault(int what) {
        if (!isBetween(what, 0, 1)) {
            return INVALID_ARGUMENT;
        }
        text.parse();
        if (text.reason == FilmText.NO_FAULT) {
            return NOT_FOUND;
        }
        return what == 0 ? text.position : text.reason;
    }

    public int read() {
        text.parse();
        if (text.reason != FilmText.NO_FAULT) {
            return NOT_POSSIBLE;
        }
        history.keep(film);
        film.takeAway();
        for (int i = 0; i < text.rows; i++) {
            film.appendRow(text.thickness[i]);
        }
        return film.rows;
    }

    // ---- arguments and questions

    private static boolean isBetween(int value, int least, int greatest) {
        return value >= least && value <= greatest;
    }

    private static boolean isThickness(int value) {
        return isBetween(value, 0, MOST_THICKNESS);
    }

    private static boolean isColour(int value) {
        return isBetween(value, 0, LAST_COLOUR);
    }

    private static boolean isQuestion(int what, int value) {
        switch (what) {
            case UNTIL_NO_FILM:
                return value == 0;
            case UNTIL_BLACK_ROWS:
                return isBetween(value, 1, MOST_ROWS);
            case UNTIL_TOP_COLOUR:
                return isColour(value);
            case UNTIL_DROPS:
                return isBetween(value, 1, MOST_DROPS_ASKED);
            default:
                return false;
        }
    }

    /** Whether the trial has come to what is asked for; the film still tells how it began. */
    private boolean isSo(int what, int value) {
        switch (what) {
            case UNTIL_NO_FILM:
                return trial.rows == 0;
            case UNTIL_BLACK_ROWS:
                return trial.blackRows() >= value;
            case UNTIL_TOP_COLOUR:
                return trial.rows > 0 && trial.colourAt(0) == value;
            case UNTIL_DROPS:
                return trial.drops - film.drops >= value;
            default:
                return false;
        }
    }

    /** How thickness shows as light. */
    private static final class Light {
        private static final int RED_WAVE = 650;
        private static final int GREEN_WAVE = 530;
        private static final int BLUE_WAVE = 460;
        private static final int TURN = 1000;
        private static final int BRIGHT = 500;

        static int path(int thickness) {
            return thickness * 266 / 100;
        }

        static int red(int path) {
            return brightness(path * TURN / RED_WAVE);
        }

        static int green(int path) {
            return brightness(path * TURN / GREEN_WAVE);
        }

        static int blue(int path) {
            return brightness(path * TURN / BLUE_WAVE);
        }

        static int order(int path) {
            return path / GREEN_WAVE;
        }

        static int colour(int thickness, int blackLimit) {
            if (thickness < blackLimit) {
                return 0;
            }
            int path = path(thickness);
            int colour = red(path) >= BRIGHT ? 4 : 0;
            if (green(path) >= BRIGHT) {
                colour += 2;
            }
            if (blue(path) >= BRIGHT) {
                colour += 1;
            }
            return colour;
        }

        private static int brightness(int turned) {
            int phase = turned % TURN;
            return phase <= TURN / 2 ? 2 * phase : 2 * (TURN - phase);
        }
    }

    /** All that a change records and undo restores. Without a film it has no rows. */
    private static final class Film {
        final int[] thickness = new int[MOST_ROWS];
        final int[] settings = new int[SETTINGS];
        final int[] accounts = new int[ACCOUNTS];
        int rows;
        int ticks;
        int drops;
        int bursts;
        int burstReason;
        int burstNumber;
        int ticksBeforeBurst;

        Film() {
            System.arraycopy(FIRST_SETTING, 0, settings, 0, SETTINGS);
        }

        void copyFrom(Film other) {
            System.arraycopy(other.thickness, 0, thickness, 0, MOST_ROWS);
            System.arraycopy(other.settings, 0, settings, 0, SETTINGS);
            System.arraycopy(other.accounts, 0, accounts, 0, ACCOUNTS);
            rows = other.rows;
            ticks = other.ticks;
            drops = other.drops;
            bursts = other.bursts;
            burstReason = other.burstReason;
            burstNumber = other.burstNumber;
            ticksBeforeBurst = other.ticksBeforeBurst;
        }

        boolean hasRow(int row) {
            return row >= 0 && row < rows;
        }

        void bring(int amount) {
            accounts[BROUGHT] += amount;
            accounts[IN_FILM] += amount;
        }

        /** Liquid only ever goes from one account to another, so that they add up. */
        private void move(int from, int to, int amount) {
            accounts[from] -= amount;
            accounts[to] += amount;
        }

        void appendRow(int newThickness) {
            if (rows < MOST_ROWS) {
                thickness[rows] = newThickness;
                rows++;
                bring(newThickness);
            }
        }

        void takeAway() {
            endFilm(TAKEN);
        }

        private void endFilm(int account) {
            move(IN_FILM, account, accounts[IN_FILM]);
            rows = 0;
        }

        int loseFrom(int row, int wanted, int account) {
            int lost = Math.min(wanted, thickness[row]);
            thickness[row] -= lost;
            move(IN_FILM, account, lost);
            return lost;
        }

        int colourAt(int row) {
            return Light.colour(thickness[row], settings[BLACK_LIMIT]);
        }

        boolean isBlack(int row) {
            return thickness[row] < settings[BLACK_LIMIT];
        }

        boolean startsColour(int row) {
            return row == 0 || colourAt(row) != colourAt(row - 1);
        }

        int blackRows() {
            int black = 0;
            for (int i = 0; i < rows; i++) {
                if (isBlack(i)) {
                    black++;
                }
            }
            return black;
        }

        int fringes() {
            int fringes = 0;
            for (int i = 1; i < rows; i++) {
                if (startsColour(i)) {
                    fringes++;
                }
            }
            return fringes;
        }

        int differentColours() {
            int seen = 0;
            for (int i = 0; i < rows; i++) {
                seen |= 1 << colourAt(i);
            }
            return Integer.bitCount(seen);
        }

        int greatestOrder() {
            int greatest = 0;
            for (int i = 0; i < rows; i++) {
                greatest = Math.max(greatest, Light.order(Light.path(thickness[i])));
            }
            return greatest;
        }

        void tick() {
            if (rows > 0) {
                drain();
                runEdges();
                dry();
                letDropFall();
                burstIfDue();
            }
            ticks++;
        }

        private void drain() {
            for (int i = rows - 1; i >= 0; i--) {
                // 5000 * 5000 * 100 is too much for an int
                long square = (long) thickness[i] * thickness[i];
                giveDown(i, (int) (square * settings[SLOPE] / 1000000));
            }
        }

        /** A row's blackness is looked at before the row above it gives, and kept until it is its turn. */
        private void runEdges() {
            boolean aboveIsBlack = false;
            boolean black = rows > 0 && isBlack(0);
            for (int i = 0; i < rows; i++) {
                boolean belowIsBlack = i + 1 < rows && isBlack(i + 1);
                if (aboveIsBlack && !black) {
                    giveDown(i, settings[RUNNING]);
                }
                aboveIsBlack = black;
                black = belowIsBlack;
            }
        }

        private void giveDown(int row, int wanted) {
            if (row == rows - 1) {
                loseFrom(row, wanted, IN_DROP);
                return;
            }
            int room = MOST_THICKNESS - thickness[row + 1];
            int given = Math.min(Math.min(wanted, thickness[row]), room);
            thickness[row] -= given;
            thickness[row + 1] += given;
        }

        private void dry() {
            for (int i = 0; i < rows; i++) {
                loseFrom(i, settings[DRYING], DRIED);
            }
        }

        private void letDropFall() {
            if (accounts[IN_DROP] >= settings[DROP_HOLDS]) {
                move(IN_DROP, FALLEN, accounts[IN_DROP]);
                drops++;
            }
        }

        private void burstIfDue() {
            int tooThin = firstTooThin();
            int black = blackRows();
            if (tooThin >= 0) {
                burst(BURST_TOO_THIN, tooThin);
            } else if (black > settings[MOST_BLACK_ROWS]) {
                burst(BURST_TOO_BLACK, black);
            }
        }

        private int firstTooThin() {
            for (int i = 0; i < rows; i++) {
                if (thickness[i] < settings[LEAST_THICKNESS]) {
                    return i;
                }
            }
            return -1;
        }

        private void burst(int reason, int number) {
            endFilm(LOST);
            bursts++;
            burstReason = reason;
            burstNumber = number;
            ticksBeforeBurst = ticks;
        }
    }

    /** The states ahead of the latest changes, the oldest first. Its films are used again and again. */
    private static final class History {
        private static final int MOST_STATES = 5;

        private final Film[] states = new Film[MOST_STATES];
        int size;

        History() {
            for (int i = 0; i < MOST_STATES; i++) {
                states[i] = new Film();
            }
        }

        void keep(Film film) {
            if (size == MOST_STATES) {
                dropOldest();
            }
            states[size].copyFrom(film);
            size++;
        }

        void restore(Film film) {
            if (size > 0) {
                size--;
                film.copyFrom(states[size]);
            }
        }

        private void dropOldest() {
            Film oldest = states[0];
            for (int i = 1; i < MOST_STATES; i++) {
                states[i - 1] = states[i];
            }
            states[MOST_STATES - 1] = oldest;
            size--;
        }
    }

    /** The text, and the film or the fault that was found in it when it was parsed last. */
    private static final class FilmText {
        static final int FIRST_SIGN = 32;
        static final int LAST_SIGN = 126;
        static final int MOST_SIGNS = 100;

        static final int NO_FAULT = 0;
        private static final int BAD_FORM = 1;
        private static final int OUT_OF_RANGE = 2;
        private static final int TOO_MANY_ROWS = 3;

        private static final int THICKNESS_DIGITS = 4;
        private static final int TIMES_DIGITS = 2;
        private static final int NO_NUMBER = -1;

        private final char[] signs = new char[MOST_SIGNS];
        int length;
        final int[] thickness = new int[MOST_ROWS];
        int rows;
        int position;
        int reason;

        void append(char sign) {
            if (length < MOST_SIGNS) {
                signs[length] = sign;
                length++;
            }
        }

        /** A "," at the end, like an empty text, leaves an empty part, which is a fault. */
        void parse() {
            rows = 0;
            reason = NO_FAULT;
            int start = 0;
            for (int end = 0; end <= length && reason == NO_FAULT; end++) {
                if (end == length || signs[end] == ',') {
                    position = start;
                    reason = takePart(start, end);
                    start = end + 1;
                }
            }
        }

        private int takePart(int start, int end) {
            int cross = findCross(start, end);
            int value = number(start, cross, THICKNESS_DIGITS);
            int times = cross < end ? number(cross + 1, end, TIMES_DIGITS) : 1;
            if (value == NO_NUMBER || times == NO_NUMBER) {
                return BAD_FORM;
            }
            if (!isThickness(value) || !isBetween(times, 1, MOST_ROWS)) {
                return OUT_OF_RANGE;
            }
            if (rows + times > MOST_ROWS) {
                return TOO_MANY_ROWS;
            }
            for (int i = 0; i < times; i++) {
                thickness[rows] = value;
                rows++;
            }
            return NO_FAULT;
        }

        private int findCross(int from, int end) {
            for (int i = from; i < end; i++) {
                if (signs[i] == 'x') {
                    return i;
                }
            }
            return end;
        }

        private int number(int from, int end, int mostDigits) {
            if (end - from < 1 || end - from > mostDigits) {
                return NO_NUMBER;
            }
            int number = 0;
            for (int i = from; i < end; i++) {
                if (signs[i] < '0' || signs[i] > '9') {
                    return NO_NUMBER;
                }
                number = number * 10 + signs[i] - '0';
            }
            return number;
        }
    }
}
