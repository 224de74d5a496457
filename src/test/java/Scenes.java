/** Objects in which something has come about already: each is made anew, by the same calls. */
final class Scenes {
    /** Each PART, and each YEAR's rust, is made use of below. */
    private static final String MIXED_FAMILY = "life 60;person abe age 50 of;person ben age 58 of;person cyr age 30;"
        + "thing gate thick 40 coat 6;thing bell thick 5;thing pot thick 99;"
        + "loves abe gate 4;loves ben bell 5;loves abe pot 1;";
    private static final String FULL_FAMILY = "shows 0;life 120;person a age 1 of;person b age 2 of;person c age 3 of;"
        + "person d age 4;person e age 5;person f age 6 of;thing g thick 999;thing h thick 900;thing i thick 800;"
        + "thing j thick 700;thing k thick 600;thing l thick 500;thing m thick 400;thing n thick 1;"
        + "loves a g 1;loves b h 2;loves c i 3;loves d j 4;loves f n 9;";

    private Scenes() {
    }

    static RustFamily empty() {
        return new RustFamily();
    }

    /**
     * Abe lives and it SHOWS in him, ben is dead, cyr lives and is not OF the line; the gate has OIL and the bell is
     * THROUGH; YEARS are told and LIVED, there are two MARKS, one FRACTION, a FAULT, twenty bytes on the tape.
     * TRAYS: four numbers (a DAMP of 4, a BITE of 2, then what can't be), two, none, and one that is MISSING.
     */
    static RustFamily mixed() {
        RustFamily x = new RustFamily();
        Texts.family(x, MIXED_FAMILY);
        x.year(1);
        x.mark();
        x.oil(0);
        x.year(1);
        x.mark();
        Texts.years(x, "year 1;any;oil pot;");
        x.live(5);
        x.blame(0);
        x.tray(0, 1, 4);
        x.write(0, 0, 4);
        x.write(0, 1, 2);
        x.write(0, 2, 10);
        x.write(0, 3, -1);
        x.tray(1, 1, 2);
        x.write(1, 0, 7);
        x.tray(2, 3, 0);
        Texts.years(x, "year 0;");
        Texts.feed(x, "thing zed thick 7;");
        return x;
    }

    /** Six PEOPLE, eight THINGS, three MARKS, 900 bytes on the tape, the YEAR 9,999, a TRAY of seven numbers. */
    static RustFamily full() {
        RustFamily x = new RustFamily();
        Texts.family(x, FULL_FAMILY);
        Texts.years(x, "year 20;damp 9;");
        x.mark();
        for (int i = 0; i < 101; i++) {
            x.year(99);
            if (i == 0) {
                x.mark();
            }
        }
        x.mark();
        x.tray(0, 3, 7);
        for (int i = 0; i < 45; i++) {
            Texts.feed(x, "year 9;oil gate;    ");
        }
        return x;
    }

    /** One in whom it SHOWS, a TRAY of sixty numbers. */
    static RustFamily sixty() {
        RustFamily x = new RustFamily();
        x.born(50, true);
        x.tray(0, 0, 60);
        x.write(0, 59, 100);
        return x;
    }

    /** Six PEOPLE in whom it SHOWS, eight whole THINGS, nothing loved yet. */
    static RustFamily crowd() {
        RustFamily x = new RustFamily();
        for (int i = 0; i < 6; i++) {
            x.born(40, true);
        }
        for (int i = 0; i < 8; i++) {
            x.forge(999);
        }
        return x;
    }
}
