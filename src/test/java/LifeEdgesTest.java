/** The edges of YEARS that are LIVED, of draws, MARKS and FRACTIONS (==== 4), promises 49 to 53. */
public final class LifeEdgesTest {
    private static final String ONE = "person a age 50 of;thing g thick 99;loves a g 4;";

    /** 3 STEPS each by 99 and one for the loop. */
    private static final String STEPS_298 = "loop 99;damp 1;damp 2;damp 3;end;";

    /** Of the draws that are due. */
    private static int s;

    private LifeEdgesTest() {
    }

    public static void main(String[] args) {
        noSteps();
        yearsAtTheEnd();
        missedLoves();
        missedDamp();
        missedOnThrough();
        missedAny();
        most();
        draws();
        drawsInTurn();
        drawsOfThings();
        whenThrough();
        whenRust();
        whenShows();
        loops();
        threeHundred();
        threeHundredInLoops();
        stops();
        wentThrough();
        died();
        livedStays();
        mean();
        meanLeavesAll();
        meanOfSeeds();
        marks();
        marksKeep();
        marksOfYears();
        backLeaves();
        Check.end("LifeEdgesTest");
    }

    /** Lives by a seed: how many STEPS, then MISSED, YEARS, THROUGH, DIED, left. */
    private static void lives(RustFamily x, String what, int seed, int steps, int... told) {
        Check.fine(x, what + ": steps", x.live(seed), steps);
        for (int i = 0; i < told.length; i++) {
            Check.fine(x, what + ": lived " + i, x.lived(i), told[i]);
        }
    }

    private static RustFamily one(String years) {
        return Check.with(ONE, years);
    }

    private static void noSteps() {
        RustFamily x = one("loop 99;end;");
        lives(x, "49 a loop of nothing", 0, 1, 0, 0, 0, 0, 0);
        x = one("loop 99;loop 99;loop 99;end;end;end;");
        lives(x, "49 loops of nothing, to the 300", 0, 300, 0, 0, 0, 0, 1);
        x = one("when shows a;end;");
        lives(x, "49 a when of nothing that holds", 0, 1, 0, 0, 0, 0, 0);
        x = one("when through g;end;");
        lives(x, "49 a when of nothing that does not", 0, 1, 0, 0, 0, 0, 0);
        x = one("stop;");
        lives(x, "49 stop alone", 0, 1, 0, 0, 0, 0, 0);
        x = Check.with("", "year 20;");
        lives(x, "49 nobody", 9999, 1, 0, 20, 0, 0, 0);
    }

    private static RustFamily inYear(int year, String years) {
        RustFamily x = one(years);
        for (int left = year; left > 0; left -= 99) {
            x.year(Math.min(left, 99));
        }
        Check.due("13 the year", x.many(6), year);
        return x;
    }

    private static void yearsAtTheEnd() {
        RustFamily x = inYear(9979, "year 20;");
        lives(x, "49 to 9,999", 0, 1, 0, 20, 0, 0, 0);
        Check.due("13 9,999", x.many(6), 9999);
        lives(x, "49 beyond", 0, 1, 1, 0, 0, 0, 0);
        Check.due("13 9,999 yet", x.many(6), 9999);
        x = inYear(9980, "year 20;year 19;year 1;");
        lives(x, "49 missed as a whole", 0, 3, 2, 19, 0, 0, 0);
        Check.due("13 by the next to 9,999", x.many(6), 9999);
        x = inYear(9998, "loop 3;year 1;end;");
        lives(x, "49 one of three", 0, 4, 2, 1, 0, 0, 0);
        // What is MISSED bites nothing, and leaves OIL as it is.
        x = inYear(9999, "year 1;year 20;");
        x.born(50, true);
        x.dote(1, 0, 9);
        x.oil(0);
        lives(x, "49 both missed", 0, 2, 2, 0, 0, 0, 0);
        Check.due("15 oil", x.thing(0, 3), 3);
        Check.due("14 age", x.person(1, 0), 50);
    }

    private static void missedLoves() {
        RustFamily x = one("loves a g 4;");
        lives(x, "49 a love that is so", 0, 1, 1, 0, 0, 0, 0);
        x = one("loves a g 0;loves a g 0;loves a g 9;loves a g 9;");
        lives(x, "49 each second one is so", 0, 4, 2, 0, 0, 0, 0);
        Check.due("16 9", x.love(0, 0), 9);
        x = Check.with("life 51;person a age 50 of;thing g thick 99;", "year 1;loves a g 3;");
        lives(x, "49 the dead, too", 0, 2, 0, 1, 0, 1, 0);
        Check.due("16 3", x.love(0, 0), 3);
    }

    private static void missedDamp() {
        RustFamily x = one("damp 4;");
        lives(x, "49 a damp that is so", 0, 1, 1, 0, 0, 0, 0);
        x = one("damp 0;damp 0;damp 9;damp 9;year 1;");
        lives(x, "49 each second one is so", 0, 5, 2, 1, 0, 0, 0);
        Check.due("13 9", x.many(4), 9);
        Check.due("15 it bites", x.thing(0, 2), 9);
    }

    private static void missedOnThrough() {
        RustFamily x = Check.with("breath 9;thing g thick 9;thing h thick 10;",
            "oil g;coat g 1;mend g;oil h;coat h 1;mend h;any;any;any;any;any;any;");
        x.breathe(0);
        x.breathe(1);
        Check.fine(x, "49 steps", x.live(1), 12);
        Check.due("15 no oil", x.thing(0, 3), 0);
        Check.due("15 no coat", x.thing(0, 1), 0);
        Check.due("15 no rust gone", x.thing(0, 2), 9);
        Check.due("15 oil of what is not through by one", x.thing(1, 3), 3);
        Check.due("15 its coat", x.thing(1, 1), 1);
        x = Check.with("breath 9;thing g thick 9;", "oil g;coat g 1;mend g;any;");
        x.breathe(0);
        lives(x, "49 all missed", 0, 4, 4, 0, 0, 0, 0);
        Check.due("49 the damp stays drawn", x.many(4), 3);
        Check.due("15 not breathed on", x.thing(0, 2), 9);
        x = Check.with("breath 9;thing g thick 10;", "oil g;coat g 1;mend g;any;");
        x.breathe(0);
        // 9, half of it is 4; 9 more: through.
        lives(x, "49 none missed", 0, 4, 0, 0, 1, 0, 0);
        Check.due("15 4 and 9", x.thing(0, 2), 13);
    }

    private static void missedAny() {
        RustFamily x = Check.with("damp 7;person a age 50 of;", "any;");
        lives(x, "49 any without things", 0, 1, 1, 0, 0, 0, 0);
        Check.due("49 no damp is drawn", x.many(4), 7);
        x.forge(9);
        lives(x, "49 any with one", 0, 1, 0, 0, 0, 0, 0);
        Check.due("49 a damp is drawn", x.many(4), 3);
        Check.due("49 breathed on", x.thing(0, 2), 3);
        // A damp that is drawn as it was is none that is MISSED.
        lives(x, "49 any by the same damp", 0, 1, 0, 0, 0, 0, 0);
        x.rule(5, 0);
        lives(x, "49 any by no breath", 0, 1, 0, 0, 0, 0, 0);
    }

    /** COAT and RUST of a STEP end at 999, as those of calls do. */
    private static void most() {
        RustFamily x = Check.with("thing g thick 9 coat 900;", "coat g 99;coat g 99;coat g 1;");
        lives(x, "49 coats", 0, 3, 0, 0, 0, 0, 0);
        Check.due("15 999", x.thing(0, 1), 999);
        x = Check.with("thing g thick 9 coat 900;", "coat g 98;");
        lives(x, "49 a coat", 0, 1, 0, 0, 0, 0, 0);
        Check.due("15 998", x.thing(0, 1), 998);
        x = Check.with("breath 99;thing g thick 999;", "loop 11;any;end;");
        lives(x, "49 999 at most", 0, 12, 0, 0, 1, 0, 0);
        Check.due("15 999 of rust", x.thing(0, 2), 999);
        x = Check.with("breath 3;thing g thick 9;", "any;mend g;oil g;oil g;year 1;oil g;");
        lives(x, "49 half gone, rounded up", 0, 6, 0, 1, 0, 0, 0);
        Check.due("15 1 of 3", x.thing(0, 2), 1);
        Check.due("15 three years, not six", x.thing(0, 3), 3);
    }

    private static int draw(int by) {
        s = (int) (((long) s * 2971 + 10831) % 65536);
        return s / 8 % by;
    }

    /** What one any does, by seeds from the first to the last, and those at which s would wrap around soonest. */
    private static void draws() {
        for (int seed = 0; seed <= 9999; seed += seed < 60 || seed > 9900 ? 1 : 331) {
            RustFamily x = Check.with("breath 1;thing a thick 9;thing b thick 9;thing c thick 9;", "any;");
            lives(x, "49 seed " + seed, seed, 1, 0, 0, 0, 0, 0);
            s = seed;
            Check.due("49 the damp by seed " + seed, x.many(4), draw(10));
            Check.due("49 the thing by seed " + seed, x.thing(draw(3), 2), 1);
            Check.due("49 it alone by seed " + seed, x.many(11), 1);
        }
    }

    private static void drawsInTurn() {
        RustFamily x = Check.with("breath 1;thing a thick 99;thing b thick 99;thing c thick 3;thing d thick 99;thing e thick 99;",
            "loop 99;any;end;");
        lives(x, "49 seed 9,999", 9999, 100);
        s = 9999;
        int[] rust = new int[5];
        int damp = 0;
        int missed = 0;
        for (int i = 0; i < 99; i++) {
            damp = draw(10);
            int thing = draw(5);
            if (thing == 2 && rust[2] == 3) {
                missed++;
            } else {
                rust[thing]++;
            }
        }
        Check.due("49 the last damp", x.many(4), damp);
        Check.due("49 missed", x.lived(0), missed);
        for (int i = 0; i < 5; i++) {
            Check.due("49 rust " + i, x.thing(i, 2), rust[i]);
        }
        // From the seed on again, not from where it was.
        x = Check.with("thing a thick 99;", "any;");
        x.live(0);
        Check.due("49 damp 3", x.many(4), 3);
        x.live(0);
        Check.due("49 damp 3 again", x.many(4), 3);
    }

    /** By a draw by how many there are: of one it is drawn, too. */
    private static void drawsOfThings() {
        for (int things = 1; things <= 8; things++) {
            RustFamily x = Check.with("breath 1;thing a thick 99;", "any;any;any;");
            for (int i = 1; i < things; i++) {
                x.forge(99);
            }
            Check.fine(x, "49 three of " + things, x.live(4321), 3);
            s = 4321;
            int[] rust = new int[8];
            int damp = 0;
            for (int i = 0; i < 3; i++) {
                damp = draw(10);
                rust[draw(things)]++;
            }
            Check.due("49 damp by " + things, x.many(4), damp);
            for (int i = 0; i < things; i++) {
                Check.due("49 rust " + i + " of " + things, x.thing(i, 2), rust[i]);
            }
        }
    }

    private static void whenThrough() {
        for (int rust = 7; rust <= 9; rust++) {
            RustFamily x = Check.with("breath " + rust + ";thing g thick 8;", "when through g;damp 1;end;");
            x.breathe(0);
            lives(x, "49 8 thick, rust " + rust, 0, rust < 8 ? 1 : 2);
            Check.due("13 damp by rust " + rust, x.many(4), rust < 8 ? 4 : 1);
        }
    }

    private static int tested(int rust, String compares) {
        RustFamily x = Check.with("thing g thick 999;", "when rust g " + compares + ";damp 1;end;");
        for (int left = rust; left > 0; left -= 99) {
            x.rule(5, Math.min(left, 99));
            x.breathe(0);
        }
        return x.live(0) - 1;
    }

    private static void whenRust() {
        int[] bounds = {1, 7, 998};
        for (int n : bounds) {
            for (int rust = n - 1; rust <= n + 1; rust++) {
                Check.due("49 rust " + rust + " < " + n, tested(rust, "< " + n), rust < n ? 1 : 0);
                Check.due("49 rust " + rust + " > " + n, tested(rust, "> " + n), rust > n ? 1 : 0);
                Check.due("49 rust " + rust + " = " + n, tested(rust, "= " + n), rust == n ? 1 : 0);
            }
        }
        Check.due("49 rust 0 < 0", tested(0, "< 0"), 0);
        Check.due("49 rust 0 = 0", tested(0, "= 0"), 1);
        Check.due("49 rust 0 > 0", tested(0, "> 0"), 0);
        Check.due("49 rust 999 > 999", tested(999, "> 999"), 0);
        Check.due("49 rust 999 = 999", tested(999, "= 999"), 1);
        Check.due("49 rust 999 < 999", tested(999, "< 999"), 0);
    }

    private static void whenShows() {
        String when = "when shows a;damp 1;end;";
        lives(Check.with("person a age 39 of;", when), "49 not yet", 0, 1);
        lives(Check.with("person a age 40 of;", when), "49 now", 0, 2);
        lives(Check.with("person a age 40;", when), "49 not of the line", 0, 1);
        lives(Check.with("person a age 39 of;", "year 1;" + when), "49 in a year", 0, 3);
        lives(Check.with("person a age 68 of;", "year 1;" + when), "49 in his last year", 0, 3);
        lives(Check.with("person a age 69 of;", "year 1;" + when), "49 dead", 0, 2);
        lives(Check.with("person a age 69 of;", when), "49 not dead yet", 0, 2);
    }

    private static void loops() {
        lives(one("loop 1;year 1;end;"), "49 once", 0, 2, 0, 1, 0, 0, 0);
        lives(one("loop 99;year 1;end;"), "49 99 times", 0, 100, 0, 99, 0, 1, 0);
        lives(one("loop 2;year 1;end;year 1;"), "49 then on", 0, 4, 0, 3, 0, 0, 0);
        // A loop within counts as one each time it is come to from ahead.
        lives(one("loop 2;loop 3;year 1;end;end;"), "49 two of three", 0, 1 + 2 + 6, 0, 6, 0, 0, 0);
        lives(one("loop 2;year 1;loop 3;year 1;end;year 1;end;"), "49 within", 0, 1 + 2 * 6, 0, 10, 0, 0, 0);
        lives(one("loop 2;loop 2;loop 2;year 1;end;year 1;end;year 1;end;"), "49 three deep", 0,
            1 + 2 * (1 + 2 * (1 + 2 + 1) + 1), 0, 14, 0, 0, 0);
        lives(one("loop 3;loop 2;end;year 1;loop 2;end;end;"), "49 with loops of nothing", 0, 1 + 3 * 3, 0, 3, 0, 0, 0);
        lives(one("loop 3;when rust g<5;year 1;end;end;"), "49 a when within", 0, 1 + 3 + 2, 0, 2, 0, 0, 0);
        lives(one("when shows a;loop 2;year 1;end;end;year 1;"), "49 within a when", 0, 1 + 1 + 2 + 1, 0, 3, 0, 0, 0);
        lives(one("when through g;loop 2;year 1;end;end;year 1;"), "49 within one that does not hold", 0, 2, 0, 1, 0, 0, 0);
        lives(one("loop 2;when through g;loop 2;year 1;end;end;end;"), "49 a loop within it at the end", 0, 3, 0, 0, 0, 0, 0);
        // From there on again: nothing is left of loops.
        RustFamily x = one("loop 2;year 1;when rust g > 7;stop;end;end;");
        lives(x, "49 stopped in a loop", 0, 6, 0, 2, 0, 0, 0);
        lives(x, "49 again", 0, 4, 0, 1, 0, 0, 0);
    }

    private static void threeHundred() {
        lives(one(STEPS_298 + "damp 1;"), "49 299", 0, 299, 0, 0, 0, 0, 0);
        lives(one(STEPS_298 + "damp 1;damp 2;"), "49 300", 0, 300, 0, 0, 0, 0, 0);
        RustFamily x = one(STEPS_298 + "damp 1;damp 2;damp 5;");
        lives(x, "49 301", 0, 300, 0, 0, 0, 0, 1);
        Check.due("13 the 300th was done, not the next", x.many(4), 2);
        lives(one(STEPS_298 + "damp 1;when shows a;end;"), "49 the 300th a when of nothing", 0, 300, 0, 0, 0, 0, 0);
        lives(one(STEPS_298 + "damp 1;when shows a;damp 5;end;"), "49 one is left in a when", 0, 300, 0, 0, 0, 0, 1);
        lives(one(STEPS_298 + "damp 1;when through g;damp 5;end;"), "49 none in one that does not hold", 0, 300,
            0, 0, 0, 0, 0);
        lives(one(STEPS_298 + "damp 1;damp 2;when through g;end;"), "49 a when is left", 0, 300, 0, 0, 0, 0, 1);
        lives(one(STEPS_298 + "damp 1;damp 2;loop 1;end;"), "49 a loop of nothing is left", 0, 300, 0, 0, 0, 0, 1);
        lives(one(STEPS_298 + "damp 1;loop 9;end;"), "49 the 300th a loop of nothing", 0, 300, 0, 0, 0, 0, 0);
        lives(one(STEPS_298 + "damp 1;loop 1;damp 5;end;"), "49 one is left in a loop", 0, 300, 0, 0, 0, 0, 1);
        // MISSED ones count, too.
        lives(one("loop 99;damp 4;damp 4;damp 4;end;damp 4;damp 4;damp 4;"), "49 all missed", 0, 300, 299, 0, 0, 0, 1);
        x = one(STEPS_298 + "damp 1;year 20;year 1;");
        lives(x, "49 by steps, not by years", 0, 300, 0, 20, 0, 1, 1);
    }

    private static void threeHundredInLoops() {
        // 1 and 3 times 99 and 1 and 1: the last round of the second loop ends by the 300th.
        lives(one(STEPS_298 + "loop 1;damp 1;end;"), "49 the last of its last round", 0, 300, 0, 0, 0, 0, 0);
        lives(one(STEPS_298 + "loop 2;damp 1;end;"), "49 another round is left", 0, 300, 0, 0, 0, 0, 1);
        lives(one("loop 1;" + STEPS_298 + "damp 1;end;"), "49 within another, of one round", 0, 300, 0, 0, 0, 0, 0);
        lives(one("loop 2;" + STEPS_298 + "damp 1;end;"), "49 within another, of two", 0, 300, 0, 0, 0, 0, 1);
        lives(one("loop 1;" + STEPS_298 + "end;damp 1;"), "49 behind both", 0, 300, 0, 0, 0, 0, 0);
        lives(one("loop 1;" + STEPS_298 + "end;damp 1;damp 2;"), "49 one is left behind both", 0, 300, 0, 0, 0, 0, 1);
        // Loops that the 300 left are not gone on with by the next.
        RustFamily x = one("loop 99;damp 1;damp 2;when shows a;damp 3;end;end;");
        lives(x, "49 left in its loop", 0, 300, 0, 0, 0, 0, 1);
        x.year(99);
        lives(x, "49 dead: to its end", 0, 1 + 99 * 3, 0, 0, 0, 0, 0);
        x = one("loop 99;damp 1;damp 2;damp 3;damp 5;end;");
        lives(x, "49 left in its loop, too", 0, 300, 0, 0, 0, 0, 1);
        Texts.years(x, "year 1;");
        Texts.years(x, "year 1;year 1;");
        lives(x, "49 other years", 0, 2, 0, 2, 0, 0, 0);
        Texts.years(x, "loop 99;damp 1;damp 2;damp 3;damp 5;end;");
        Check.fine(x, "51 left in its loop", x.mean(0, 2));
        lives(x, "49 behind a mean", 0, 300, 0, 0, 0, 0, 1);
    }

    private static void stops() {
        lives(one("year 1;stop;year 1;"), "49 what is behind it is not left by the 300", 0, 2, 0, 1, 0, 0, 0);
        lives(one("loop 9;stop;end;year 1;"), "49 out of a loop", 0, 2, 0, 0, 0, 0, 0);
        lives(one("when shows a;loop 9;loop 9;stop;end;end;end;year 1;"), "49 out of three", 0, 4, 0, 0, 0, 0, 0);
        lives(one(STEPS_298 + "damp 1;stop;damp 5;"), "49 the 300th", 0, 300, 0, 0, 0, 0, 0);
        lives(one(STEPS_298 + "damp 1;damp 2;stop;"), "49 the 301st is left", 0, 300, 0, 0, 0, 0, 1);
    }

    private static void wentThrough() {
        RustFamily x = Check.with("breath 9;person a age 50 of;thing g thick 4;thing h thick 9;thing i thick 9;thing j thick 5;"
            + "loves a g 4;loves a j 4;", "year 1;");
        x.breathe(1);
        lives(x, "50 one by a year, not what was", 0, 1, 0, 1, 1, 0, 0);
        lives(x, "50 another by the next", 0, 1, 0, 1, 1, 0, 0);
        lives(x, "50 none by a third", 0, 1, 0, 1, 0, 0, 0);
        Texts.years(x, "loop 99;any;end;");
        lives(x, "50 by breath", 0, 100, 98, 0, 1, 0, 0);
        x = Scenes.crowd();
        x.rule(5, 99);
        Texts.years(x, "loop 99;any;any;any;end;");
        lives(x, "50 all eight", 0, 298, 297 - 8 * 11, 0, 8, 0, 0);
    }

    private static void died() {
        RustFamily x = Check.with("life 60;person a age 59;person b age 58;person c age 57;person d age 99;", "year 2;");
        lives(x, "50 three in two years", 0, 1, 0, 2, 0, 3, 0);
        lives(x, "50 the last", 0, 1, 0, 2, 0, 1, 0);
        lives(x, "50 none any more", 0, 1, 0, 2, 0, 0, 0);
        x = Scenes.crowd();
        x.rule(3, 41);
        Texts.years(x, "year 1;");
        lives(x, "50 all six", 0, 1, 0, 1, 0, 6, 0);
    }

    private static void livedStays() {
        RustFamily x = one("year 2;year 2;damp 4;stop;");
        lives(x, "50 told", 0, 4, 1, 4, 0, 0, 0);
        x.year(9);
        x.mark();
        Texts.years(x, "damp 4;");
        x.mean(0, 20);
        Check.refused(x, "49 refused", x.live(10000), 5);
        Check.refused(x, "50 refused", x.lived(5), 5);
        x.back();
        Texts.family(x, "");
        Check.refused(x, "49 no years", x.live(0), 8);
        int[] due = {1, 4, 0, 0, 0};
        for (int i = 0; i < 5; i++) {
            Check.fine(x, "50 whatever came since, " + i, x.lived(i), due[i]);
        }
        Texts.years(x, "damp 4;");
        lives(x, "50 the latest then", 0, 1, 1, 0, 0, 0, 0);
    }

    private static void mean() {
        RustFamily x = one("year 1;");
        Check.fine(x, "51 one of the first", x.mean(0, 1));
        Check.fraction(x, "51 one of the first", 4, 1);
        Check.fine(x, "51 one of the last", x.mean(9999, 1));
        Check.fraction(x, "51 one of the last", 4, 1);
        Check.fine(x, "51 twenty to the last", x.mean(9980, 20));
        Check.fraction(x, "51 twenty to the last", 4, 1);
        x.rule(4, 0);
        Check.fine(x, "51 no rust", x.mean(0, 20));
        Check.fraction(x, "51 0 by 1", 0, 1);
        x = Check.with("", "any;");
        Check.fine(x, "51 no things", x.mean(0, 20));
        Check.fraction(x, "51 no things: 0 by 1", 0, 1);
        x = Scenes.crowd();
        x.rule(5, 99);
        Texts.years(x, "loop 99;any;any;any;end;");
        Check.fine(x, "51 all through", x.mean(1, 20));
        Check.fraction(x, "51 8 times 999", 7992, 1);
    }

    private static void meanLeavesAll() {
        RustFamily x = Scenes.mixed();
        Check.fine(x, "51 told", x.mean(9, 20));
        Check.fine(x, "48 one in whom it does not show", x.blame(2));
        RustFamily y = Scenes.mixed();
        Check.fine(y, "48 for the FRACTION, too", y.blame(2));
        Check.same("51 all stays as it is", Probe.all(x), Probe.all(y));
    }

    /** By seeds from one on: each by itself, from what is now. */
    private static void meanOfSeeds() {
        String family = "breath 2;thing a thick 3;thing b thick 9;";
        int[] firsts = {0, 7, 9996};
        for (int first : firsts) {
            for (int many = 1; many <= 4; many++) {
                RustFamily x = Check.with(family, "any;any;any;");
                x.breathe(1);
                Check.fine(x, "51 from " + first + " on " + many, x.mean(first, many));
                int all = 0;
                for (int i = 0; i < many; i++) {
                    s = first + i;
                    int[] rust = {0, 2};
                    int[] thick = {3, 9};
                    for (int j = 0; j < 3; j++) {
                        draw(10);
                        int thing = draw(2);
                        rust[thing] += rust[thing] < thick[thing] ? 2 : 0;
                    }
                    all += rust[0] + rust[1];
                }
                int divisor = many;
                while (all % divisor != 0 || many % divisor != 0) {
                    divisor--;
                }
                Check.fraction(x, "51 from " + first + " on " + many, all / divisor, many / divisor);
            }
        }
    }

    private static void marks() {
        RustFamily x = new RustFamily();
        Check.refused(x, "53 none", x.back(), 8);
        for (int i = 1; i <= 3; i++) {
            Check.fine(x, "52 mark " + i, x.mark(), i);
            x.year(1);
        }
        Check.refused(x, "52 a fourth", x.mark(), 7);
        for (int i = 2; i >= 0; i--) {
            Check.fine(x, "53 left " + i, x.back(), i);
            Check.due("13 the year of it " + i, x.many(6), i);
        }
        Check.refused(x, "53 none any more", x.back(), 8);
        for (int i = 1; i <= 3; i++) {
            Check.fine(x, "52 anew " + i, x.mark(), i);
        }
        Check.fine(x, "53 two", x.back(), 2);
        Check.fine(x, "52 three again", x.mark(), 3);
        Check.refused(x, "52 a fourth again", x.mark(), 7);
    }

    /** All that can become of a FAMILY is taken back. */
    private static void marksKeep() {
        String kept = Probe.kept(Scenes.mixed());
        RustFamily x = Scenes.mixed();
        x.mark();
        for (int what = 2; what < 6; what++) {
            x.rule(what, 7);
        }
        x.year(7);
        x.dote(0, 0, 9);
        x.dote(2, 1, 9);
        x.coat(0, 5);
        x.breathe(2);
        x.mend(0);
        x.oil(2);
        x.forge(9);
        x.born(9, true);
        x.back();
        Check.same("53 all is taken back", Probe.kept(x), kept);
        x = Scenes.mixed();
        x.mark();
        Texts.feed(x, "thing z thick 5;    ");
        x.years(3);
        Texts.family(x, "thing z thick 5;");
        x.year(3);
        x.back();
        Check.same("53 a family, too", Probe.kept(x), kept);
        x = Scenes.mixed();
        x.mark();
        x.back();
        Check.same("53 nothing came between", Probe.all(x), Probe.all(Scenes.mixed()));
        RustFamily eight = Scenes.crowd();
        for (int t = 0; t < 8; t++) {
            eight.coat(t, t + 1);
            eight.dote(5, t, t + 1);
        }
        eight.mark();
        Texts.family(eight, "");
        eight.back();
        for (int t = 0; t < 8; t++) {
            Check.due("53 coat " + t, eight.thing(t, 1), t + 1);
            Check.due("53 love " + t, eight.love(5, t), t + 1);
        }
    }

    private static void marksOfYears() {
        RustFamily x = Check.with(ONE);
        x.mark();
        Texts.years(x, "year 3;");
        x.mark();
        Texts.years(x, "year 5;damp 1;");
        x.mark();
        Texts.years(x, "stop;");
        lives(x, "49 the latest", 0, 1, 0, 0, 0, 0, 0);
        x.back();
        lives(x, "53 the second", 0, 2, 0, 5, 0, 0, 0);
        x.back();
        lives(x, "53 the first", 0, 1, 0, 3, 0, 0, 0);
        x.back();
        Check.refused(x, "53 no years then", x.live(0), 8);
        String steps = "loop 2;".repeat(3) + "any;".repeat(25) + "end;".repeat(3) + "loves a g 3;when rust g > 0;end;";
        x = Check.with(ONE, steps);
        x.mark();
        Texts.years(x, "stop;".repeat(30));
        x.back();
        Check.fine(x, "53 thirty steps", x.live(3), Check.with(ONE, steps).live(3));
    }

    private static void backLeaves() {
        RustFamily x = one("year 1;");
        x.mark();
        x.tray(0, 1, 1);
        x.write(0, 0, 7);
        x.blame(0);
        x.live(0);
        Check.faultOfYears(x, "year 0;", 4, 5);
        Texts.feed(x, "thing z thick 5;");
        Check.fine(x, "53 back", x.back(), 0);
        Check.due("7 the tray stays", x.read(0, 0), 7);
        Check.fraction(x, "3 the fraction stays", 1, 1);
        Check.due("50 what was lived stays", x.lived(1), 1);
        Check.due("12 the fault stays", x.fault(0), 4);
        Check.due("12 its place stays", x.fault(1), 5);
        Check.fine(x, "9 the tape stays", x.family(16), 1);
    }
}
