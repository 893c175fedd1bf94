/** Counts the answers that are not due and prints each of them. */
final class Check {
    private int looked;
    private int wrong;

    void due(String call, long got, long want) {
        looked++;
        if (got != want) {
            wrong++;
            System.out.println(call + " answered " + got + ", due is " + want);
        }
    }

    void holds(String what, boolean so) {
        due(what, so ? 1 : 0, 1);
    }

    boolean isWrong() {
        return wrong > 0;
    }

    void end(String name) {
        System.out.println(name + ": " + looked + " answers, " + wrong + " wrong");
        if (wrong > 0 || looked == 0) {
            System.exit(1);
        }
    }

    static void typeAll(SoapFilm film, String text) {
        for (int i = 0; i < text.length(); i++) {
            film.type(text.charAt(i));
        }
    }

    static SoapFilm filmOf(String text) {
        SoapFilm film = new SoapFilm();
        typeAll(film, text);
        film.read();
        return film;
    }

    /** A film of the text with the settings 0 to 6 in their order. */
    static SoapFilm filmOf(String text, int... settings) {
        SoapFilm film = filmOf(text);
        for (int i = 0; i < settings.length; i++) {
            film.set(i, settings[i]);
        }
        return film;
    }

    void rows(String name, SoapFilm film, int... thicknesses) {
        due(name + ": rows", film.count(0), thicknesses.length);
        for (int i = 0; i < thicknesses.length; i++) {
            due(name + ": row(" + i + ", 0)", film.row(i, 0), thicknesses[i]);
        }
    }

    void accounts(String name, SoapFilm film, int... accounts) {
        for (int i = 0; i < accounts.length; i++) {
            due(name + ": count(" + (20 + i) + ")", film.count(20 + i), accounts[i]);
        }
    }
}
