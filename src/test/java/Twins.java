import java.util.List;
import java.util.function.Supplier;
import java.util.function.ToIntFunction;

/** Two films of one making, of which one gets a call more: what the call did shows as a difference. */
final class Twins {
    /** Of count, what rows and settings do not tell anyway; 11 is the history's. */
    private static final int[] TOLD = {
        0, 1, 6, 7, 8, 9, 10, 12, 20, 21, 22, 23, 24, 25, 26, 30, 31, 32, 33, 34, 35, 36};

    private final Check check;

    Twins(Check check) {
        this.check = check;
    }

    /** A refused call, a look or a question: its answer is due, and all is and goes on as without it. */
    void changesNothing(String name, Supplier<SoapFilm> making, ToIntFunction<SoapFilm> call, int answer) {
        SoapFilm with = making.get();
        SoapFilm without = making.get();
        check.due(name, call.applyAsInt(with), answer);
        alikeToTheEnd(name, with, without);
    }

    void changesNothing(
            String name, List<Supplier<SoapFilm>> makings, ToIntFunction<SoapFilm> call, int answer) {
        for (int i = 0; i < makings.size(); i++) {
            changesNothing(name + " of film " + i, makings.get(i), call, answer);
        }
    }

    /** A change: its answer is due, one state is recorded, and undo brings everything back. */
    void isRecorded(String name, Supplier<SoapFilm> making, ToIntFunction<SoapFilm> call, int answer) {
        SoapFilm with = making.get();
        SoapFilm without = making.get();
        int states = Math.min(5, without.count(11) + 1);
        check.due(name, call.applyAsInt(with), answer);
        check.due(name + ", states", with.count(11), states);
        check.due(name + ", undo()", with.undo(), states - 1);
        alike(name + ", taken back", with, without);
    }

    private void alikeToTheEnd(String name, SoapFilm with, SoapFilm without) {
        alike(name, with, without);
        check.due(name + ", fault(0)", with.fault(0), without.fault(0));
        check.due(name + ", fault(1)", with.fault(1), without.fault(1));
        int states = without.count(11);
        check.due(name + ", states", with.count(11), states);
        for (int i = 0; i <= states; i++) {
            check.due(name + ", undo() " + i, with.undo(), without.undo());
            alike(name + ", undone " + i, with, without);
        }
        check.due(name + ", read()", with.read(), without.read());
        alike(name + ", read", with, without);
        check.due(name + ", type('0')", with.type('0'), without.type('0'));
    }

    private void alike(String name, SoapFilm with, SoapFilm without) {
        for (int what : TOLD) {
            check.due(name + ", count(" + what + ")", with.count(what), without.count(what));
        }
        int rows = without.count(0);
        for (int i = 0; i < rows; i++) {
            check.due(name + ", row(" + i + ", 0)", with.row(i, 0), without.row(i, 0));
        }
    }
}
