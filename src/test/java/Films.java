/** Films at the edges: none yet, none any more, ordinary ones, and full ones. */
final class Films {
    private Films() {
    }

    static SoapFilm none() {
        return new SoapFilm();
    }

    /** Its row 1 was too thin in the first tick. */
    static SoapFilm burst() {
        SoapFilm x = Check.filmOf("100,4");
        x.go(1);
        return x;
    }

    static SoapFilm three() {
        return Check.filmOf("100,200,300");
    }

    static SoapFilm one() {
        return Check.filmOf("100");
    }

    /** More changes than are kept, a burst, a drop that has fallen, and a text that is another film. */
    static SoapFilm longHistory() {
        SoapFilm x = burst();
        x.set(6, 40);
        x.dip(4, 1000, 300);
        x.go(2);
        x.thin(1, 35);
        x.add(70);
        x.pour(0, 20);
        Check.typeAll(x, ",900");
        return x;
    }

    static SoapFilm full() {
        return Check.filmOf("5000x24");
    }

    /** 100 characters, 13 rows. */
    static SoapFilm fullText() {
        SoapFilm x = new SoapFilm();
        for (int i = 0; i < 12; i++) {
            Check.typeAll(x, "4000x01,");
        }
        Check.typeAll(x, "4000");
        x.read();
        return x;
    }

    /** A film of two rows when 100000 ticks have gone by. */
    static SoapFilm lastTick() {
        SoapFilm x = new SoapFilm();
        for (int i = 0; i < 100; i++) {
            x.go(1000);
        }
        Check.typeAll(x, "100,200");
        x.read();
        return x;
    }
}
