/** Counts and prints answers that are not as due. */
final class Check {
    static final String FAMILY = "shows 40;life 70;damp 4;breath 3;person abe age 45 of;person ben age 38 of;"
        + "person cyr age 50;person dan age 68 of;thing gate thick 20 coat 4;thing bell thick 30;thing knife thick 9;"
        + "thing spoon thick 15;loves abe gate 3;loves abe bell 2;loves ben knife 4;loves dan bell 5;"
        + "loves dan knife 1;loves cyr spoon 9;loves abe knife 1;";

    private static int wrong = 0;
    private static int asked = 0;

    private Check() {
    }

    static void due(String what, long got, long want) {
        asked++;
        if (got != want) {
            wrong++;
            System.out.println(what + " answered " + got + ", due is " + want);
        }
    }

    static void due(String what, boolean got, boolean want) {
        due(what, got ? 1 : 0, want ? 1 : 0);
    }

    static void same(String what, String got, String want) {
        asked++;
        if (!got.equals(want)) {
            wrong++;
            System.out.println(what + "\n  answered " + got + "\n  due is   " + want);
        }
    }

    /** NONE, and this STATUS. */
    static void refused(RustFamily x, String what, long got, int status) {
        due(what, got, RustFamily.NONE);
        due(what + ": status", x.status(), status);
    }

    static void refused(RustFamily x, String what, boolean got, int status) {
        due(what, got, false);
        due(what + ": status", x.status(), status);
    }

    /** This answer, and STATUS 0. */
    static void fine(RustFamily x, String what, long got, long want) {
        due(what, got, want);
        due(what + ": status", x.status(), 0);
    }

    static void fine(RustFamily x, String what, boolean got) {
        due(what, got, true);
        due(what + ": status", x.status(), 0);
    }

    static void fraction(RustFamily x, String what, long top, long bottom) {
        due(what + ": top", x.top(), top);
        due(what + ": bottom", x.bottom(), bottom);
    }

    /** This FAULT at this place of a FAMILY's text. */
    static void fault(RustFamily x, String text, int kind, int place) {
        refused(x, "family " + text, Texts.family(x, text), 10);
        due("fault of " + text, x.fault(0), kind);
        due("place of " + text, x.fault(1), place);
    }

    static void faultOfYears(RustFamily x, String text, int kind, int place) {
        refused(x, "years " + text, Texts.years(x, text), 10);
        due("fault of " + text, x.fault(0), kind);
        due("place of " + text, x.fault(1), place);
    }

    static RustFamily with(String family) {
        RustFamily x = new RustFamily();
        Texts.family(x, family);
        due("family " + family, x.status(), 0);
        return x;
    }

    static RustFamily with(String family, String years) {
        RustFamily x = with(family);
        Texts.years(x, years);
        due("years " + years, x.status(), 0);
        return x;
    }

    static void end(String name) {
        System.out.println(name + ": " + asked + " answers, " + wrong + " not as due");
        if (wrong != 0 || asked == 0) {
            System.exit(1);
        }
    }
}
