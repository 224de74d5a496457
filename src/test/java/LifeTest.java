/** Promises 49 to 53: YEARS that are LIVED, MARKS. */
public final class LifeTest {
    private static final String TWO = "person a age 50 of;person b age 10;thing g thick 20;thing h thick 9;loves a g 4;";

    private LifeTest() {
    }

    public static void main(String[] args) {
        live();
        missed();
        draws();
        tests();
        loops();
        limit();
        stop();
        lastYear();
        liveStatus();
        lived();
        mean();
        marks();
        marksAndTexts();
        Check.end("LifeTest");
    }

    private static void lives(RustFamily x, String what, int seed, int steps, int... told) {
        Check.fine(x, what + ": steps", x.live(seed), steps);
        for (int i = 0; i < told.length; i++) {
            Check.fine(x, what + ": lived " + i, x.lived(i), told[i]);
        }
    }

    private static void live() {
        RustFamily x = Check.with(TWO, "year 2;oil g;year 1;coat h 5;damp 9;mend g;loves b h 3;");
        lives(x, "49 one by one", 0, 7, 0, 3, 0, 0, 0);
        // 4 and 4, then 2 with oil; half of 10.
        Check.due("49 rust", x.thing(0, 2), 5);
        Check.due("49 oil", x.thing(0, 3), 2);
        Check.due("49 coat", x.thing(1, 1), 5);
        Check.due("49 damp", x.many(4), 9);
        Check.due("49 love", x.love(1, 1), 3);
        Check.due("49 year", x.many(6), 3);
        lives(x, "49 from there on", 0, 7, 2, 3, 0, 0, 0);
        Check.due("49 stays so", x.many(6), 6);
        x = Check.with(TWO, "year 20;");
        lives(x, "50 through, and dead", 0, 1, 0, 20, 1, 1, 0);
    }

    private static void missed() {
        RustFamily x = Check.with("breath 9;person a age 50 of;thing g thick 9;", "oil g;coat g 1;mend g;damp 4;loves a g 0;");
        lives(x, "49 so already", 0, 5, 2, 0, 0, 0, 0);
        x.breathe(0);
        lives(x, "49 of what is through", 0, 5, 5, 0, 0, 0, 0);
        Check.due("49 no coat came", x.thing(0, 1), 1);
        x = Check.with("", "any;");
        lives(x, "49 any without things", 5, 1, 1, 0, 0, 0, 0);
        Check.due("49 no draw", x.many(4), 4);
    }

    private static void draws() {
        RustFamily x = Check.with("breath 2;thing g thick 9;thing h thick 9;thing i thick 9;", "any;");
        // s is 10,831, by 8 that is 1,353: damp 3. Then 10,831 times 2,971 and 10,831: 32,189,732, of which 11,556
        // is left, by 8 that is 1,444: of three the second.
        lives(x, "49 seed 0", 0, 1, 0, 0, 0, 0, 0);
        Check.due("49 damp 3", x.many(4), 3);
        Check.due("49 the second", x.thing(1, 2), 2);
        Check.due("49 alone", x.many(11), 2);
        x.rule(5, 9);
        lives(x, "50 through by breath", 0, 1, 0, 0, 1, 0, 0);
        x.rule(4, 8);
        lives(x, "49 missed, the damp stays drawn", 0, 1, 1, 0, 0, 0, 0);
        Check.due("49 damp 3 again", x.many(4), 3);
    }

    private static void tests() {
        String marks = "when through g;damp 1;end;when rust g<3;damp 2;end;when rust g>3;damp 3;end;when rust g=3;damp 5;end;"
            + "when shows a;loves a g 9;end;when shows b;loves b g 9;end;";
        RustFamily x = Check.with("breath 3;person a age 50 of;person b age 50;thing g thick 6;", marks);
        lives(x, "49 rust 0", 0, 8, 0, 0, 0, 0, 0);
        Check.due("49 less", x.many(4), 2);
        Check.due("49 it shows in a", x.love(0, 0), 9);
        Check.due("49 not in b", x.love(1, 0), 0);
        x.breathe(0);
        lives(x, "49 rust 3", 0, 8, 1, 0, 0, 0, 0);
        Check.due("49 as much", x.many(4), 5);
        x.breathe(0);
        lives(x, "49 rust 6", 0, 9, 1, 0, 0, 0, 0);
        Check.due("49 more, through", x.many(4), 3);
    }

    private static void loops() {
        RustFamily x = Check.with(TWO, "loop 3;year 1;loop 2;year 2;end;end;year 1;");
        // The loop, then three times a year, a loop and two years in it; the last one.
        lives(x, "49 as often", 0, 1 + 3 * 4 + 1, 0, 16, 1, 0, 0);
        x = Check.with(TWO, "loop 99;end;loop 99;loop 2;end;end;");
        lives(x, "49 empty ones", 0, 1 + 1 + 99, 0, 0, 0, 0, 0);
        x = Check.with(TWO, "loop 3;when rust g<8;year 1;end;end;");
        lives(x, "49 a when at the end of a loop", 0, 1 + 3 + 2, 0, 2, 0, 0, 0);
        x = Check.with(TWO, "loop 2;loop 2;loop 2;year 1;end;end;end;");
        lives(x, "49 three ends", 0, 1 + 2 + 4 + 8, 0, 8, 1, 0, 0);
        x = Check.with(TWO, "when rust g=0;loop 2;year 1;when rust g=0;year 9;end;end;end;year 1;");
        lives(x, "49 loops in when", 0, 1 + 1 + 2 * 2 + 1, 0, 3, 0, 0, 0);
    }

    private static void limit() {
        RustFamily x = Check.with(TWO, "loop 99;damp 1;damp 2;damp 3;end;");
        lives(x, "49 298 steps", 0, 298, 0, 0, 0, 0, 0);
        x = Check.with(TWO, "loop 99;damp 1;damp 2;damp 3;end;damp 4;damp 5;");
        lives(x, "49 just 300", 0, 300, 0, 0, 0, 0, 0);
        Check.due("49 the last was done", x.many(4), 5);
        x = Check.with(TWO, "loop 99;damp 1;damp 2;damp 3;end;damp 4;damp 5;damp 6;");
        lives(x, "49 one is left", 0, 300, 0, 0, 0, 0, 1);
        Check.due("49 it was not done", x.many(4), 5);
        x = Check.with(TWO, "loop 99;damp 1;damp 2;damp 3;end;damp 4;damp 5;stop;");
        lives(x, "49 stop is left, by the 300", 0, 300, 0, 0, 0, 0, 1);
        x = Check.with(TWO, "loop 99;damp 1;damp 2;damp 3;end;damp 4;loop 9;end;");
        lives(x, "49 an empty loop leaves none", 0, 300, 0, 0, 0, 0, 0);
        x = Check.with(TWO, "loop 99;damp 1;damp 2;damp 3;damp 5;end;");
        lives(x, "49 in a loop", 0, 300, 0, 0, 0, 0, 1);
        x = Check.with(TWO, "loop 99;damp 1;damp 2;damp 3;end;damp 4;when through g;year 1;end;");
        lives(x, "49 a when that does not hold", 0, 300, 0, 0, 0, 0, 0);
    }

    private static void stop() {
        RustFamily x = Check.with(TWO, "loop 9;year 1;when rust g>7;stop;end;end;year 9;");
        lives(x, "49 stop", 0, 1 + 2 + 3, 0, 2, 0, 0, 0);
    }

    private static void lastYear() {
        RustFamily x = Check.with(TWO, "year 20;year 1;");
        for (int i = 0; i < 100; i++) {
            x.year(99);
        }
        x.year(85);
        lives(x, "49 beyond 9,999 as a whole", 0, 2, 1, 1, 0, 0, 0);
        Check.due("49 9,986", x.many(6), 9986);
        x.year(13);
        lives(x, "49 9,999", 0, 2, 2, 0, 0, 0, 0);
    }

    private static void liveStatus() {
        RustFamily x = Check.with(TWO);
        Check.refused(x, "49 no years", x.live(0), 8);
        Check.refused(x, "49 no years, no seed", x.live(10000), 5);
        Texts.years(x, "any;");
        Check.refused(x, "49 -1", x.live(-1), 5);
        Check.refused(x, "49 10,000", x.live(10000), 5);
        Check.due("49 nothing happened", x.many(11), 0);
        Check.fine(x, "49 9,999", x.live(9999), 1);
    }

    private static void lived() {
        RustFamily x = Check.with(TWO);
        Check.refused(x, "50 there was none", x.lived(0), 8);
        Check.refused(x, "50 what 5", x.lived(5), 5);
        Texts.years(x, "year 3;damp 4;");
        x.mark();
        x.live(0);
        x.live(-1);
        x.mean(0, 3);
        x.back();
        Texts.family(x, "");
        Check.fine(x, "50 whatever came since", x.lived(1), 3);
        Check.fine(x, "50 missed", x.lived(0), 1);
        Check.refused(x, "50 what -1", x.lived(-1), 5);
    }

    private static void mean() {
        RustFamily x = Check.with("breath 3;thing g thick 9;thing h thick 9;", "any;when rust g=3;any;end;");
        int all = 0;
        for (int seed = 4; seed < 11; seed++) {
            x.mark();
            x.live(seed);
            all += x.many(11);
            x.back();
        }
        Check.fine(x, "51 mean", x.mean(4, 7));
        Check.due("51 as lived one by one", x.top() * 7, all * x.bottom());
        Check.due("51 all stays", x.many(11), 0);
        Check.due("51 the damp stays", x.many(4), 4);
        x = Check.with(TWO, "year 2;");
        Check.fine(x, "51 without draws", x.mean(0, 20));
        Check.fraction(x, "51 without draws", 8, 1);
        x = Check.with(TWO, "damp 0;");
        Check.fine(x, "51 no rust", x.mean(9980, 20));
        Check.fraction(x, "51 no rust", 0, 1);
        Check.refused(x, "51 the last above 9,999", x.mean(9981, 20), 5);
        Check.refused(x, "51 seed -1", x.mean(-1, 1), 5);
        Check.refused(x, "51 seed 10,000", x.mean(10000, 1), 5);
        Check.refused(x, "51 none", x.mean(0, 0), 5);
        Check.refused(x, "51 21", x.mean(0, 21), 5);
        Check.refused(x, "51 far too many", x.mean(9999, Integer.MAX_VALUE), 5);
        x = Check.with(TWO);
        Check.refused(x, "51 no years", x.mean(0, 1), 8);
        Check.refused(x, "51 no years, none", x.mean(0, 0), 5);
    }

    private static void marks() {
        RustFamily x = Check.with(TWO);
        Check.refused(x, "53 there is none", x.back(), 8);
        Check.fine(x, "52 one", x.mark(), 1);
        x.year(2);
        x.rule(2, 41);
        x.rule(3, 71);
        x.rule(4, 9);
        x.rule(5, 5);
        Check.fine(x, "52 two", x.mark(), 2);
        x.rule(2, 42);
        x.rule(3, 72);
        x.rule(5, 6);
        x.dote(0, 0, 9);
        x.oil(0);
        x.coat(1, 7);
        x.forge(5);
        x.born(3, true);
        x.year(1);
        Check.fine(x, "52 three", x.mark(), 3);
        Check.refused(x, "52 a fourth", x.mark(), 7);
        x.year(50);
        Check.fine(x, "53 two are left", x.back(), 2);
        Check.due("53 things", x.many(1), 3);
        Check.due("53 rust of the latest", x.thing(0, 2), 8 + 10);
        Check.fine(x, "53 one is left", x.back(), 1);
        int[] due = {2, 2, 41, 71, 9, 5, 2, 3, 1, 0, 0, 8};
        for (int i = 0; i < due.length; i++) {
            Check.due("53 many " + i, x.many(i), due[i]);
        }
        Check.due("53 love", x.love(0, 0), 4);
        Check.due("53 coat", x.thing(1, 1), 0);
        Check.fine(x, "52 again two", x.mark(), 2);
        x.year(1);
        Check.fine(x, "53 again one", x.back(), 1);
        Check.due("53 as it was", x.many(11), 8);
        Check.fine(x, "53 none is left", x.back(), 0);
        Check.due("53 year 0", x.many(6), 0);
        Check.due("53 damp 4", x.many(4), 4);
        Check.refused(x, "53 there is none again", x.back(), 8);
    }

    private static void marksAndTexts() {
        RustFamily x = Check.with(TWO, "year 2;");
        x.tray(0, 1, 1);
        x.mark();
        x.write(0, 0, 5);
        Texts.feed(x, "year 9;");
        Texts.family(x, "thing z thick 5;");
        Texts.years(x, "oil z;year 5;");
        x.live(0);
        Check.due("52 marks outlast a family", x.back(), 0);
        Check.due("53 the old years", x.live(0), 1);
        Check.due("53 are two", x.lived(1), 2);
        Check.due("53 its names", Texts.years(x, "oil g;loves b h 1;"), 2);
        Check.due("53 not the other's", Texts.years(x, "oil z;"), -1);
        Check.due("53 trays stay", x.read(0, 0), 5);
        x.mark();
        Texts.years(x, "loves a g 7;coat g 9;any;");
        x.back();
        Check.due("53 years alone", x.live(0), 2);
        Check.due("53 by whom", x.love(1, 1), 1);
        Check.due("53 to what", x.thing(0, 3), 3);
        x = Check.with(TWO);
        x.mark();
        Texts.years(x, "any;");
        x.back();
        Check.refused(x, "53 no years then", x.live(0), 8);
    }
}
