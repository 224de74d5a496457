/**
 * All that can be seen of an object, as one text: two objects to which the same came have the same one. What is hidden
 * (MARKS, YEARS, the tape) is brought to light by using it up, so that nothing else is asked of the object then.
 */
final class Probe {
    private static final int BLANKS = 0x20202020;

    private Probe() {
    }

    static String all(RustFamily x) {
        StringBuilder told = new StringBuilder(256);
        told.append(kept(x)).append(" fault ").append(x.fault(0)).append(' ').append(x.fault(1));
        return told.append(tape(x)).toString();
    }

    /** All but the tape and what fault() tells. */
    static String kept(RustFamily x) {
        StringBuilder told = new StringBuilder(256);
        told.append(x.top()).append('/').append(x.bottom());
        trays(x, told);
        state(x, told);
        for (int i = 0; i < 5; i++) {
            told.append(" lived ").append(x.lived(i));
        }
        years(x, told);
        for (int i = 0; i < 4; i++) {
            told.append(" back ").append(x.back());
            rules(x, told);
        }
        return told.toString();
    }

    private static void trays(RustFamily x, StringBuilder told) {
        for (int tray = 0; tray < 4; tray++) {
            told.append(" tray");
            for (int place = 0; place <= 60; place++) {
                long number = x.read(tray, place);
                if (x.status() != 0) {
                    break;
                }
                told.append(' ').append(number);
            }
            told.append(" ends by ").append(x.status());
            // By what is left of it the sort is seen.
            x.write(tray, 0, 0x7_6543_8765_8765L);
            told.append(" cut ").append(x.read(tray, 0));
        }
    }

    private static void rules(RustFamily x, StringBuilder told) {
        for (int i = 0; i < 12; i++) {
            told.append(' ').append(x.many(i));
        }
    }

    private static void state(RustFamily x, StringBuilder told) {
        rules(x, told);
        int people = x.many(0);
        int things = x.many(1);
        for (int p = 0; p < people; p++) {
            told.append(" person");
            for (int i = 0; i < 5; i++) {
                told.append(' ').append(x.person(p, i));
            }
            for (int t = 0; t < things; t++) {
                told.append(' ').append(x.love(p, t));
            }
        }
        for (int t = 0; t < things; t++) {
            told.append(" thing");
            for (int i = 0; i < 7; i++) {
                told.append(' ').append(x.thing(t, i));
            }
        }
    }

    private static void years(RustFamily x, StringBuilder told) {
        told.append(" live ").append(x.live(77)).append(' ').append(x.status());
        rules(x, told);
        for (int t = 0; t < x.many(1); t++) {
            told.append(' ').append(x.thing(t, 1)).append(' ').append(x.thing(t, 2)).append(' ').append(x.thing(t, 3));
        }
    }

    private static String tape(RustFamily x) {
        int fed = x.feed(BLANKS, BLANKS, BLANKS, BLANKS, BLANKS);
        StringBuilder told = new StringBuilder(" tape ").append(fed);
        told.append(" family ").append(x.family(fed < 0 ? 900 : fed)).append(' ').append(x.status());
        told.append(' ').append(x.fault(0)).append(' ').append(x.fault(1));
        rules(x, told);
        return told.toString();
    }
}
