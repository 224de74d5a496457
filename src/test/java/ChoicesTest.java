/** Promises 37 to 48: what was seen, who keeps what, games, odds. */
public final class ChoicesTest {
    private static final String THREE = "person a age 50 of;person b age 50 of;person c age 50 of;person d age 50;"
        + "thing g thick 50;thing h thick 50;thing i thick 50;";

    private ChoicesTest() {
    }

    public static void main(String[] args) {
        seen();
        seenStatus();
        sure();
        ask();
        keeping();
        keeps();
        stable();
        stables();
        game();
        moveOf();
        lasts();
        thickFor();
        blame();
        Check.end("ChoicesTest");
    }

    /** A TRAY of these twos. */
    private static RustFamily saw(String family, int... numbers) {
        RustFamily x = Check.with(family);
        x.tray(0, 1, numbers.length);
        for (int i = 0; i < numbers.length; i++) {
            x.write(0, i, numbers[i]);
        }
        return x;
    }

    private static void seen() {
        Check.due("37 all ways", saw(THREE).seen(0, 0), 64);
        Check.due("37 4 of three: 12 ways", saw(THREE, 4, 4).seen(0, 1), 12);
        Check.due("37 9 of three: one way", saw(THREE, 9, 20).seen(0, 1), 1);
        Check.due("37 by damp 0 all", saw(THREE, 0, 0).seen(0, 1), 64);
        Check.due("37 by damp 0 none", saw(THREE, 0, 1).seen(0, 1), 0);
        // By 2 and 1: 2 or 3 points; by 3 and 2: 3 alone.
        Check.due("37 both", saw(THREE, 2, 1, 3, 2).seen(0, 2), 10);
        Check.due("37 only the first", saw(THREE, 2, 1, 3, 99).seen(0, 1), 16);
        Check.due("37 that can't be together", saw(THREE, 4, 1, 4, 2).seen(0, 2), 0);
        Check.due("37 nobody: one way", saw("person a age 50;", 9, 0).seen(0, 1), 1);
        Check.due("37 nobody: no way", saw("person a age 50;", 9, 1).seen(0, 1), 0);
        String six = "person a age 50 of;person b age 50 of;person c age 50 of;person d age 50 of;"
            + "person e age 50 of;person f age 50 of;";
        Check.due("37 six", saw(six).seen(0, 0), 4096);
        Check.due("37 six, 9 points", saw(six, 4, 9).seen(0, 1), 580);
    }

    private static void seenStatus() {
        RustFamily x = saw(THREE, 4, 4, 10, 0);
        Check.refused(x, "37 no such tray", x.seen(4, 99), 1);
        Check.refused(x, "37 no such tray, too", x.seen(-1, 0), 1);
        Check.refused(x, "37 missing", x.seen(1, 99), 3);
        Check.refused(x, "37 too few", x.seen(0, 3), 4);
        Check.refused(x, "37 far too few", x.seen(0, Integer.MAX_VALUE), 4);
        Check.refused(x, "37 -1", x.seen(0, -1), 5);
        Check.refused(x, "37 least", x.seen(0, Integer.MIN_VALUE), 5);
        Check.refused(x, "37 damp 10", x.seen(0, 2), 5);
        Check.fine(x, "37 not asked for", x.seen(0, 1), 12);
        x.write(0, 0, -1);
        Check.refused(x, "37 damp -1", x.seen(0, 1), 5);
        seenBelowZero();
        x.tray(2, 0, 60);
        Check.fine(x, "37 20 twos", x.seen(2, 20), 64);
        Check.refused(x, "37 21 twos", x.seen(2, 21), 5);
    }

    /** A BITE is never below 0, and one that is above all that can be LOVED is only one that no way gives. */
    private static void seenBelowZero() {
        RustFamily x = saw(THREE, 4, 4, 0, -1, 4, 4);
        Check.fine(x, "37 not asked for, below 0", x.seen(0, 1), 12);
        Check.refused(x, "37 bite -1 by damp 0", x.seen(0, 2), 5);
        Check.refused(x, "37 bite -1 among others", x.seen(0, 3), 5);
        Check.refused(x, "37 too few before bite -1", x.seen(0, 4), 4);
        Check.refused(x, "38 bite -1", x.sure(0, 0, 2), 5);
        Check.refused(x, "38 bite -1, it does not show", x.sure(3, 0, 2), 5);
        Check.refused(x, "38 bite -1, nobody", x.sure(4, 0, 2), 2);
        Check.refused(x, "39 bite -1", x.ask(0, 2), 5);
        x.write(0, 3, Short.MIN_VALUE);
        Check.refused(x, "37 the least of 16 bits", x.seen(0, 2), 5);
        x.write(0, 3, Short.MAX_VALUE);
        Check.fine(x, "37 the most of 16 bits", x.seen(0, 2), 0);
        x.tray(0, 0, 2);
        x.write(0, 1, 4294967295L);
        Check.refused(x, "37 cut to -1", x.seen(0, 1), 5);
        x.tray(0, 3, 2);
        x.write(0, 1, Long.MIN_VALUE);
        Check.refused(x, "37 the least of 64 bits", x.seen(0, 1), 5);
        Check.refused(x, "39 the least of 64 bits", x.ask(0, 1), 5);
        x.write(0, 1, 4294967296L);
        Check.fine(x, "37 above 32 bits", x.seen(0, 1), 0);
        RustFamily y = new RustFamily();
        y.tray(0, 2, 2);
        y.write(0, 1, -1);
        Check.refused(y, "37 bite -1, nobody there", y.seen(0, 1), 5);
    }

    private static void sure() {
        RustFamily x = saw(THREE, 4, 9, 10, 0);
        Check.fine(x, "38 by 3", x.sure(1, 0, 1), 3);
        x.write(0, 1, 0);
        Check.fine(x, "38 not at all", x.sure(2, 0, 1), 0);
        x.write(0, 1, 1);
        Check.refused(x, "38 not the same in all", x.sure(0, 0, 1), 8);
        x.write(0, 1, 10);
        Check.refused(x, "38 no way", x.sure(0, 0, 1), 8);
        x.write(0, 1, 9);
        Check.refused(x, "38 it does not show in him", x.sure(3, 0, 1), 8);
        Check.refused(x, "38 no such tray", x.sure(9, 4, 9), 1);
        Check.refused(x, "38 nobody", x.sure(4, 1, 9), 2);
        Check.refused(x, "38 missing", x.sure(0, 1, 9), 3);
        Check.refused(x, "38 too few", x.sure(0, 0, 3), 4);
        Check.refused(x, "38 damp 10", x.sure(0, 0, 2), 5);
        Check.refused(x, "38 damp 10, it does not show", x.sure(3, 0, 2), 5);
        x = saw("person a age 50 of;", 4, 2, 2, 0);
        Check.fine(x, "38 one alone", x.sure(0, 0, 1), 2);
        Check.refused(x, "38 0 or 1", x.sure(0, 0, 2), 8);
        x.write(0, 0, 2);
        x.write(0, 1, 1);
        Check.refused(x, "38 2 or 3", x.sure(0, 0, 1), 8);
        x.write(0, 3, 1);
        x.write(0, 2, 6);
        x.write(0, 3, 3);
        Check.fine(x, "38 2", x.sure(0, 0, 2), 2);
    }

    private static void ask() {
        RustFamily x = saw(THREE, 2, 1, 10, 0);
        Check.fine(x, "39 of all ways", x.ask(0, 0), 4);
        Check.fine(x, "39 2 or 3 points", x.ask(0, 1), 3);
        x.write(0, 1, 0);
        Check.fine(x, "39 0 or 1 points", x.ask(0, 1), 4);
        x.write(0, 0, 4);
        x.write(0, 1, 5);
        Check.fine(x, "39 all alike: the least", x.ask(0, 1), 1);
        x.write(0, 1, 9);
        Check.refused(x, "39 one way", x.ask(0, 1), 8);
        RustFamily y = saw("person a age 50 of;", 2, 0);
        Check.fine(y, "39 two ways", y.ask(0, 1), 4);
        x.write(0, 1, 10);
        Check.refused(x, "39 no way", x.ask(0, 1), 8);
        Check.refused(x, "39 no such tray", x.ask(4, 0), 1);
        Check.refused(x, "39 missing", x.ask(1, 0), 3);
        Check.refused(x, "39 too few", x.ask(0, 3), 4);
        Check.refused(x, "39 damp 10", x.ask(0, 2), 5);
    }

    private static void keeping() {
        RustFamily x = Check.with(THREE + "loves a g 1;loves a h 9;loves a i 5;loves b g 2;loves b h 9;loves b i 9;"
            + "loves c h 9;loves c i 9;");
        Check.fine(x, "40 nobody", x.keeping(0), 0);
        Check.fine(x, "40 a alone", x.keeping(1), 1);
        Check.fine(x, "40 a and b", x.keeping(3), 7);
        // a the last one (5), b the second (9), c the first (0): less than 1 + 9 + 9, 5 + 2 + 9.
        Check.fine(x, "40 three", x.keeping(7), 14);
        Check.refused(x, "40 too few things", x.keeping(15), 8);
        Check.refused(x, "40 who is not there", x.keeping(16), 5);
        Check.refused(x, "40 below 0", x.keeping(-1), 5);
        x.rule(5, 99);
        x.breathe(0);
        Check.fine(x, "40 what is through is not kept", x.keeping(1), 5);
        Check.refused(x, "40 too few that are not through", x.keeping(7), 8);
    }

    private static void keeps() {
        RustFamily x = Check.with(THREE + "loves a g 1;loves a h 9;loves a i 5;loves b g 2;loves b h 9;loves b i 9;"
            + "loves c h 9;loves c i 9;");
        Check.fine(x, "41 a", x.keeps(7, 0), 2);
        Check.fine(x, "41 b", x.keeps(7, 1), 1);
        Check.fine(x, "41 c", x.keeps(7, 2), 0);
        Check.fine(x, "41 d alone: the first", x.keeps(8, 3), 0);
        x = Check.with(THREE + "loves a g 3;loves a h 3;loves b g 3;loves b h 3;loves a i 9;loves b i 9;");
        Check.fine(x, "41 the first way: a", x.keeps(3, 0), 0);
        Check.fine(x, "41 the first way: b", x.keeps(3, 1), 1);
        Check.refused(x, "41 nobody", x.keeps(99, 4), 2);
        Check.refused(x, "41 not in it", x.keeps(3, 2), 5);
        Check.refused(x, "41 a set that can't be", x.keeps(17, 0), 5);
        Check.refused(x, "41 below 0", x.keeps(-1, 0), 5);
        Check.refused(x, "41 too few", x.keeps(15, 0), 8);
    }

    private static void stable() {
        // a and b love g most; g would rather have b, who loves it less; then a asks h.
        RustFamily x = Check.with(THREE + "loves a g 9;loves a h 2;loves b g 5;loves b i 1;");
        Check.fine(x, "42 a", x.stable(3, 0), 1);
        Check.fine(x, "42 b", x.stable(3, 1), 0);
        Check.fine(x, "42 a alone", x.stable(1, 0), 0);
        Check.refused(x, "42 who loves nothing", x.stable(4, 2), 8);
        Check.refused(x, "42 nobody", x.stable(99, 4), 2);
        Check.refused(x, "42 not in it", x.stable(3, 2), 5);
        Check.refused(x, "42 a set that can't be", x.stable(16, 0), 5);
        x = Check.with(THREE + "loves a g 4;loves b g 4;loves a h 4;");
        Check.fine(x, "42 as many as both do: the first keeps it", x.stable(3, 0), 0);
        Check.refused(x, "42 and the other nothing", x.stable(3, 1), 8);
        x.rule(5, 99);
        x.breathe(0);
        Check.fine(x, "42 what is through is not asked", x.stable(3, 0), 1);
    }

    private static void stables() {
        RustFamily x = Check.with(THREE + "loves a g 9;loves a h 2;loves b g 5;loves b i 1;");
        Check.fine(x, "43 nobody", x.stables(0), 1);
        Check.fine(x, "43 a: only g", x.stables(1), 1);
        Check.fine(x, "43 a and b", x.stables(3), 1);
        // d loves nothing: nothing, or any of the three.
        Check.fine(x, "43 d", x.stables(8), 4);
        x = Check.with("person a age 0;person b age 0;thing g thick 9;thing h thick 9;"
            + "loves a g 2;loves a h 1;loves b g 1;loves b h 2;");
        // Each what he loves most, or each what loves him least.
        Check.fine(x, "43 two ways", x.stables(3), 2);
        x = Check.with("person a age 0;thing g thick 9;thing h thick 9;loves a g 1;");
        Check.fine(x, "43 by 1, not by 0, nor nothing", x.stables(1), 1);
        x = Check.with(THREE + "person e age 0;");
        Check.fine(x, "43 four: 1 + 4 * 3 + 6 * 6 + 4 * 6", x.stables(30), 73);
        Check.refused(x, "43 five", x.stables(31), 5);
        Check.refused(x, "43 who is not there", x.stables(32), 5);
        Check.refused(x, "43 below 0", x.stables(-1), 5);
        x.rule(5, 99);
        x.breathe(1);
        Check.fine(x, "43 what is through is not kept", x.stables(1), 3);
    }

    private static void game() {
        RustFamily x = Check.with("breath 3;person a age 50 of;thing g thick 50;thing h thick 50;thing i thick 5;"
            + "loves a g 8;loves a h 2;");
        Check.fine(x, "44 no turns", x.game(0, 1, 0), 0);
        // Oil saves 4 of g, breath gives 3: 2 - 4.
        Check.fine(x, "44 oil", x.game(0, 1, 1), -2);
        // Of h oil saves 1: breath gives 3.
        Check.fine(x, "44 breath", x.game(1, 0, 1), 8 + 3 - 2);
        // g is oiled (it saves 4 twice), then breathed on: 4 - (4 + 3 + 4).
        Check.fine(x, "44 two turns", x.game(0, 1, 2), -7);
        x.breathe(2);
        x.breathe(2);
        Check.fine(x, "44 what is through is not breathed on", x.game(0, 2, 1), 6 - 4);
        Check.refused(x, "44 itself", x.game(1, 1, 1), 5);
        Check.refused(x, "44 5 turns", x.game(0, 1, 5), 5);
        Check.refused(x, "44 -1 turns", x.game(0, 1, -1), 5);
        Check.refused(x, "44 no thing", x.game(3, 3, 9), 2);
        Check.refused(x, "44 no other", x.game(0, 3, 0), 2);
        x = Check.with("breath 1;thing g thick 9;thing h thick 9;");
        x.breathe(0);
        Check.fine(x, "44 -1 that is so", x.game(0, 1, 0), -1);
        x = Check.with("breath 9;thing g thick 5 coat 99;thing h thick 5 coat 99;");
        Check.fine(x, "44 once through no more", x.game(0, 1, 4), 0);
    }

    private static void moveOf() {
        RustFamily x = Check.with("breath 3;person a age 50 of;thing g thick 50;thing h thick 50;thing i thick 5;"
            + "loves a g 8;loves a h 2;");
        Check.fine(x, "45 oil", x.moveOf(0, 1, 1), 1);
        Check.fine(x, "45 breath", x.moveOf(1, 0, 1), 0);
        x.rule(5, 4);
        Check.fine(x, "45 as good: breath first", x.moveOf(0, 1, 1), 0);
        x.rule(5, 0);
        Check.fine(x, "45 of no use: breath first", x.moveOf(2, 1, 1), 0);
        x.rule(5, 5);
        x.breathe(2);
        Check.fine(x, "45 through: oil", x.moveOf(0, 2, 1), 1);
        x.rule(5, 99);
        x.breathe(1);
        Check.fine(x, "45 both through: nothing", x.moveOf(1, 2, 1), 2);
        Check.fine(x, "45 oil of no use: first yet", x.moveOf(0, 2, 4), 1);
        Check.refused(x, "45 no turns", x.moveOf(0, 1, 0), 5);
        Check.refused(x, "45 5 turns", x.moveOf(0, 1, 5), 5);
        Check.refused(x, "45 itself", x.moveOf(0, 0, 1), 5);
        Check.refused(x, "45 no thing", x.moveOf(3, 0, 0), 2);
        Check.refused(x, "45 no other", x.moveOf(0, -1, 1), 2);
    }

    private static void lasts() {
        RustFamily x = Check.with("person a age 50 of;thing g thick 4;thing h thick 1;thing i thick 7 coat 4;"
            + "loves a g 4;loves a h 1;loves a i 4;");
        Check.fine(x, "46 now", x.lasts(0, 0));
        Check.fraction(x, "46 now", 1, 1);
        // Bites are the DAMP: 0 to 3 of 0 to 9.
        Check.fine(x, "46 a year", x.lasts(0, 1));
        Check.fraction(x, "46 a year", 2, 5);
        // Two that are 3 at most: 10 of 100.
        Check.fine(x, "46 two years", x.lasts(0, 2));
        Check.fraction(x, "46 two years", 1, 10);
        Check.fine(x, "46 a damp of 0 to 3 six times", x.lasts(1, 6));
        Check.fraction(x, "46 4,096 of a million", 64, 15625);
        // 10 at most: 64 of 100 (all but those of 11 and more: 36).
        Check.fine(x, "46 the coat", x.lasts(2, 2));
        Check.fraction(x, "46 the coat", 16, 25);
        most();
        x.oil(0);
        // With oil 0 to 7: 3 at most.
        Check.fine(x, "46 oil", x.lasts(0, 1));
        Check.fraction(x, "46 oil", 4, 5);
        Check.refused(x, "46 7", x.lasts(0, 7), 5);
        Check.refused(x, "46 -1", x.lasts(0, -1), 5);
        Check.refused(x, "46 no thing", x.lasts(3, 7), 2);
        Check.fraction(x, "46 as told ahead", 4, 5);
        x.rule(5, 99);
        x.breathe(0);
        Check.fine(x, "46 through", x.lasts(0, 0));
        Check.fraction(x, "46 through", 0, 1);
        Check.due("46 the damp stays", x.many(4), 4);
    }

    /** Six who love it by 9 in six YEARS: 121 at most in each. */
    private static void most() {
        RustFamily x = Check.with("thing g thick 726 coat 1;");
        for (int i = 0; i < 6; i++) {
            x.born(50, true);
            x.dote(i, 0, 9);
        }
        Check.fine(x, "46 the most", x.lasts(0, 6));
        Check.fraction(x, "46 the most", 1, 1);
        Check.fine(x, "47 the most", x.thickFor(0, 6, 10), 726);
        x = Check.with("thing g thick 726;");
        for (int i = 0; i < 6; i++) {
            x.born(50, true);
            x.dote(i, 0, 9);
        }
        Check.fine(x, "46 all but one way", x.lasts(0, 6));
        Check.fraction(x, "46 all but one way", 999999, 1000000);
        Check.fine(x, "47 one more", x.thickFor(0, 6, 10), 727);
        x = Check.with("life 52;person a age 50 of;thing g thick 1;loves a g 4;");
        Check.fine(x, "46 he dies", x.lasts(0, 3));
        Check.fraction(x, "46 a damp of 0 in one year alone", 1, 10);
    }

    private static void thickFor() {
        RustFamily x = Check.with("person a age 50 of;thing g thick 4;thing h thick 999;loves a g 4;");
        Check.fine(x, "47 whatever", x.thickFor(0, 1, 0), 1);
        Check.fine(x, "47 a tenth", x.thickFor(0, 1, 1), 1);
        Check.fine(x, "47 two tenths", x.thickFor(0, 1, 2), 2);
        Check.fine(x, "47 surely", x.thickFor(0, 1, 10), 10);
        Check.fine(x, "47 surely for six years", x.thickFor(0, 6, 10), 55);
        x.breathe(0);
        x.breathe(0);
        // RUST is 6, through by 4: 6 to 15 in a year.
        Check.fine(x, "47 as if it was not through", x.thickFor(0, 1, 1), 7);
        Check.fine(x, "47 as if it was not through, surely", x.thickFor(0, 1, 10), 16);
        x.rule(5, 99);
        for (int i = 0; i < 11; i++) {
            x.breathe(1);
        }
        Check.refused(x, "47 by none", x.thickFor(1, 0, 1), 8);
        Check.fine(x, "47 whatever rust", x.thickFor(1, 0, 0), 1);
        Check.refused(x, "47 7", x.thickFor(0, 7, 0), 5);
        Check.refused(x, "47 -1", x.thickFor(0, -1, 0), 5);
        Check.refused(x, "47 11 tenths", x.thickFor(0, 0, 11), 5);
        Check.refused(x, "47 -1 tenths", x.thickFor(0, 0, -1), 5);
        Check.refused(x, "47 no thing", x.thickFor(2, 7, 11), 2);
    }

    private static void blame() {
        RustFamily x = Check.with(Check.FAMILY);
        Check.fine(x, "48 abe", x.blame(0));
        Check.fraction(x, "48 abe", 1, 2);
        Check.fine(x, "48 dan", x.blame(3));
        Check.fraction(x, "48 dan", 1, 2);
        Check.fine(x, "48 cyr", x.blame(2));
        Check.fraction(x, "48 cyr", 0, 1);
        x.rule(2, 46);
        Check.fine(x, "48 in whom it shows now", x.blame(0));
        Check.fraction(x, "48 in whom it shows now", 0, 1);
        x.rule(2, 40);
        x.year(3);
        Check.fine(x, "48 what is through, too", x.blame(1));
        Check.fraction(x, "48 ben", 2, 5);
        Check.refused(x, "48 nobody", x.blame(4), 2);
        x.rule(2, 99);
        Check.refused(x, "48 nothing is loved", x.blame(0), 8);
        Check.refused(x, "48 nobody, nothing", x.blame(4), 2);
        Check.fraction(x, "48 stays", 2, 5);
    }
}
