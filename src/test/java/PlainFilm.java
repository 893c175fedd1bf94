import java.util.ArrayDeque;
import java.util.ArrayList;
import java.util.Arrays;
import java.util.Deque;
import java.util.HashSet;
import java.util.List;
import java.util.Set;
import java.util.regex.Matcher;
import java.util.regex.Pattern;

/**
 * The document once more, written in another way (lists, regular expressions, long numbers, the
 * account of the film by summing), so that a slip in one of the two shows as a difference.
 */
final class PlainFilm {
    private static final Pattern PART = Pattern.compile("([0-9]{1,4})(?:x([0-9]{1,2}))?");
    private static final long[][] RANGES = {
        {0, 100}, {0, 50}, {0, 500}, {1, 200}, {0, 100}, {1, 24}, {1, 100000}};

    private List<Long> rows = new ArrayList<>();
    private long[] settings = {20, 1, 10, 30, 5, 12, 3000};
    private long tick;
    private long brought;
    private long drop;
    private long fallen;
    private long dried;
    private long lost;
    private long taken;
    private long drops;
    private long bursts;
    private long reason;
    private long reasonNumber;
    private long burstTick;
    private Deque<PlainFilm> history = new ArrayDeque<>();
    private String text = "";

    private PlainFilm copy() {
        PlainFilm copy = new PlainFilm();
        copy.become(this);
        return copy;
    }

    private void become(PlainFilm o) {
        rows = new ArrayList<>(o.rows);
        settings = o.settings.clone();
        tick = o.tick;
        brought = o.brought;
        drop = o.drop;
        fallen = o.fallen;
        dried = o.dried;
        lost = o.lost;
        taken = o.taken;
        drops = o.drops;
        bursts = o.bursts;
        reason = o.reason;
        reasonNumber = o.reasonNumber;
        burstTick = o.burstTick;
    }

    private void record() {
        history.addLast(copy());
        if (history.size() == 6) {
            history.removeFirst();
        }
    }

    private static boolean outside(long value, long least, long greatest) {
        return value < least || value > greatest;
    }

    private long inFilm() {
        return rows.stream().mapToLong(Long::longValue).sum();
    }

    long set(int what, int value) {
        if (outside(what, 0, 6) || outside(value, RANGES[what][0], RANGES[what][1])) {
            return -1;
        }
        record();
        long previous = settings[what];
        settings[what] = value;
        return previous;
    }

    long dip(int number, int top, int more) {
        if (outside(number, 1, 24) || outside(top, 0, 5000) || outside(more, 0, 500)
                || top + (number - 1L) * more > 5000) {
            return -1;
        }
        record();
        List<Long> dipped = new ArrayList<>();
        for (long thickness = top; dipped.size() < number; thickness += more) {
            dipped.add(thickness);
        }
        replace(dipped);
        return inFilm();
    }

    private void replace(List<Long> newRows) {
        taken += inFilm();
        rows = newRows;
        brought += inFilm();
    }

    long pour(int row, int amount) {
        if (outside(row, 0, rows.size() - 1) || outside(amount, 1, 5000)) {
            return -1;
        }
        if (rows.get(row) + amount > 5000) {
            return -3;
        }
        record();
        rows.set(row, rows.get(row) + amount);
        brought += amount;
        return rows.get(row);
    }

    long add(int thickness) {
        if (outside(thickness, 0, 5000)) {
            return -1;
        }
        if (rows.isEmpty()) {
            return -2;
        }
        if (rows.size() >= 24) {
            return -3;
        }
        record();
        rows.add((long) thickness);
        brought += thickness;
        return rows.size();
    }

    long thin(int row, int amount) {
        if (outside(row, 0, rows.size() - 1) || outside(amount, 1, 5000)) {
            return -1;
        }
        record();
        long before = rows.get(row);
        rows.set(row, Math.max(0, before - amount));
        taken += before - rows.get(row);
        return before - rows.get(row);
    }

    long cut() {
        if (rows.size() < 2) {
            return -2;
        }
        record();
        long last = rows.remove(rows.size() - 1);
        taken += last;
        return last;
    }

    long go(int ticks) {
        if (outside(ticks, 1, 1000)) {
            return -1;
        }
        if (tick + ticks > 100000) {
            return -3;
        }
        record();
        long whole = 0;
        for (int i = 0; i < ticks; i++) {
            whole += rows.isEmpty() ? 0 : 1;
            oneTick();
        }
        return whole;
    }

    private void oneTick() {
        if (!rows.isEmpty()) {
            for (int i = rows.size() - 1; i >= 0; i--) {
                give(i, rows.get(i) * rows.get(i) * settings[0] / 1000000);
            }
            List<Boolean> black = new ArrayList<>();
            for (long thickness : rows) {
                black.add(thickness < settings[3]);
            }
            for (int i = 1; i < rows.size(); i++) {
                if (black.get(i - 1) && !black.get(i)) {
                    give(i, settings[2]);
                }
            }
            for (int i = 0; i < rows.size(); i++) {
                long loss = Math.min(settings[1], rows.get(i));
                rows.set(i, rows.get(i) - loss);
                dried += loss;
            }
            if (drop >= settings[6]) {
                fallen += drop;
                drop = 0;
                drops++;
            }
            maybeBurst();
        }
        tick++;
    }

    private void give(int row, long wish) {
        long given = Math.min(wish, rows.get(row));
        if (row == rows.size() - 1) {
            drop += given;
        } else {
            given = Math.min(given, 5000 - rows.get(row + 1));
            rows.set(row + 1, rows.get(row + 1) + given);
        }
        rows.set(row, rows.get(row) - given);
    }

    private void maybeBurst() {
        long black = rows.stream().filter(thickness -> thickness < settings[3]).count();
        for (int i = rows.size() - 1; i >= 0; i--) {
            if (rows.get(i) < settings[4]) {
                reason = 1;
                reasonNumber = i;
                burstTick = -1;
            }
        }
        boolean burst = burstTick == -1;
        if (!burst && black > settings[5]) {
            reason = 2;
            reasonNumber = black;
            burst = true;
        }
        if (burst) {
            bursts++;
            burstTick = tick;
            lost += inFilm();
            rows.clear();
        }
    }

    long undo() {
        if (history.isEmpty()) {
            return -2;
        }
        become(history.removeLast());
        return history.size();
    }

    private static long path(long thickness) {
        return thickness * 266 / 100;
    }

    private static long brightness(long thickness, long wave) {
        long phase = path(thickness) * 1000 / wave % 1000;
        return 1000 - Math.abs(1000 - 2 * phase);
    }

    private long colour(long thickness) {
        if (thickness < settings[3]) {
            return 0;
        }
        long colour = 0;
        for (long wave : new long[] {650, 530, 460}) {
            colour = 2 * colour + (brightness(thickness, wave) >= 500 ? 1 : 0);
        }
        return colour;
    }

    private List<Long> colours() {
        List<Long> colours = new ArrayList<>();
        for (long thickness : rows) {
            colours.add(colour(thickness));
        }
        return colours;
    }

    private List<Long> ladderColours() {
        List<Long> ladder = new ArrayList<>();
        for (Long colour : colours()) {
            if (ladder.isEmpty() || !ladder.get(ladder.size() - 1).equals(colour)) {
                ladder.add(colour);
            }
        }
        return ladder;
    }

    long row(int row, int what) {
        if (outside(row, 0, rows.size() - 1) || outside(what, 0, 7)) {
            return -1;
        }
        long t = rows.get(row);
        return Arrays.asList(t, path(t), brightness(t, 650), brightness(t, 530), brightness(t, 460),
                colour(t), path(t) / 530, t < settings[3] ? 1L : 0L).get(what);
    }

    long count(int what) {
        if (what >= 30 && what <= 36) {
            return settings[what - 30];
        }
        if (what >= 20 && what <= 26) {
            return new long[] {brought, inFilm(), drop, fallen, dried, lost, taken}[what - 20];
        }
        if (what < 0 || what > 12) {
            return -1;
        }
        Set<Long> different = new HashSet<>(colours());
        long greatest = -4;
        long black = 0;
        for (long thickness : rows) {
            greatest = Math.max(greatest, path(thickness) / 530);
            black += thickness < settings[3] ? 1 : 0;
        }
        return new long[] {rows.size(), tick, black, Math.max(0, ladderColours().size() - 1),
            different.size(), greatest, reason, reason == 0 ? -4 : reasonNumber,
            reason == 0 ? -4 : burstTick, bursts, drops, history.size(), text.length()}[what];
    }

    long ladder(int index) {
        if (index < 0) {
            return -1;
        }
        return index < ladderColours().size() ? ladderColours().get(index) : -4;
    }

    long find(int colour, int from) {
        if (outside(colour, 0, 7) || from < 0) {
            return -1;
        }
        if (from >= rows.size()) {
            return -4;
        }
        int found = colours().subList(from, rows.size()).indexOf((long) colour);
        return found < 0 ? -4 : from + found;
    }

    long colourOf(int thickness) {
        return outside(thickness, 0, 5000) ? -1 : colour(thickness);
    }

    long thicknessFor(int colour, int thickness) {
        if (outside(colour, 0, 7) || outside(thickness, 0, 5000)) {
            return -1;
        }
        for (int t = thickness; t <= 5000; t++) {
            if (colour(t) == colour) {
                return t;
            }
        }
        return -4;
    }

    long until(int what, int value) {
        int[] least = {0, 1, 0, 1};
        int[] greatest = {0, 24, 7, 100};
        if (outside(what, 0, 3) || outside(value, least[what], greatest[what])) {
            return -1;
        }
        PlainFilm ahead = copy();
        for (int ticks = 0; ticks <= 1000; ticks++) {
            boolean so = new boolean[] {
                ahead.rows.isEmpty(),
                !ahead.rows.isEmpty() && ahead.count(2) >= value,
                ahead.row(0, 5) == value,
                ahead.drops - drops >= value}[what];
            if (so) {
                return ticks;
            }
            ahead.oneTick();
        }
        return -4;
    }

    long ifGo(int row, int ticks) {
        if (outside(row, 0, rows.size() - 1) || outside(ticks, 1, 1000)) {
            return -1;
        }
        PlainFilm ahead = copy();
        for (int i = 0; i < ticks; i++) {
            ahead.oneTick();
        }
        return ahead.rows.isEmpty() ? -4 : ahead.rows.get(row);
    }

    long type(int character) {
        if (outside(character, 32, 126)) {
            return -1;
        }
        if (text.length() >= 100) {
            return -3;
        }
        text += (char) character;
        return text.length();
    }

    long clearText() {
        long length = text.length();
        text = "";
        return length;
    }

    /** The rows of the text go into the list; null, or the fault's position and reason. */
    private long[] look(List<Long> into) {
        long position = 0;
        for (String part : text.split(",", -1)) {
            Matcher matcher = PART.matcher(part);
            if (!matcher.matches()) {
                return new long[] {position, 1};
            }
            long thickness = Long.parseLong(matcher.group(1));
            long times = matcher.group(2) == null ? 1 : Long.parseLong(matcher.group(2));
            if (thickness > 5000 || times < 1 || times > 24) {
                return new long[] {position, 2};
            }
            for (long i = 0; i < times; i++) {
                into.add(thickness);
            }
            if (into.size() > 24) {
                return new long[] {position, 3};
            }
            position += part.length() + 1;
        }
        return null;
    }

    long fault(int what) {
        if (outside(what, 0, 1)) {
            return -1;
        }
        long[] fault = look(new ArrayList<>());
        return fault == null ? -4 : fault[what];
    }

    long read() {
        List<Long> newRows = new ArrayList<>();
        if (look(newRows) != null) {
            return -2;
        }
        record();
        replace(newRows);
        return rows.size();
    }
}
