import java.util.HashMap;
import java.util.Map;
import java.util.function.Supplier;
import java.util.function.ToLongFunction;

/**
 * Promises 5 to 53: every call that is refused, one by one on an object of its own: what it answers, the STATUS that it
 * leaves, and that nothing else has changed, as is seen beside an object to which the call was not made.
 */
public final class RefusedTest {
    private static final int LEAST = Integer.MIN_VALUE;
    private static final int MOST = Integer.MAX_VALUE;

    private static final Supplier<RustFamily> EMPTY = Scenes::empty;
    private static final Supplier<RustFamily> MIXED = Scenes::mixed;
    private static final Supplier<RustFamily> FULL = Scenes::full;
    private static final Supplier<RustFamily> SIXTY = Scenes::sixty;
    private static final Supplier<RustFamily> CROWD = Scenes::crowd;

    private static final Map<Supplier<RustFamily>, String> UNTOUCHED = new HashMap<>();

    private RefusedTest() {
    }

    public static void main(String[] args) {
        tray();
        writeAndRead();
        pour();
        pourInOrder();
        texts();
        told();
        copyRust();
        year();
        dote();
        helpAndHarm();
        forgeAndBorn();
        rule();
        ahead();
        aheadOfNone();
        jars();
        less();
        seen();
        sure();
        ask();
        keeping();
        stable();
        game();
        odds();
        blame();
        live();
        mean();
        marks();
        Check.end("RefusedTest");
    }

    private static void no(Supplier<RustFamily> scene, int status, String what, ToLongFunction<RustFamily> call) {
        RustFamily x = scene.get();
        long answer = call.applyAsLong(x);
        Check.refused(x, what, answer, status);
        String untouched = UNTOUCHED.computeIfAbsent(scene, s -> Probe.all(s.get()));
        Check.same(what + ": nothing else has changed", Probe.all(x), untouched);
    }

    /** A boolean call: false stands for NONE. */
    private static long is(boolean answer) {
        return answer ? 1 : RustFamily.NONE;
    }

    private static Supplier<RustFamily> of(String family) {
        return () -> Check.with(family);
    }

    private static void tray() {
        int[] none = {-1, 4, LEAST, MOST};
        for (int n : none) {
            no(MIXED, 1, "5 tray " + n, x -> is(x.tray(n, 0, 1)));
            no(MIXED, 1, "5 sort " + n, x -> is(x.tray(0, n, 1)));
            no(MIXED, 1, "5 tray ahead of the length " + n, x -> is(x.tray(n, 0, 61)));
            no(MIXED, 1, "5 tray ahead of below 0 " + n, x -> is(x.tray(n, 0, -1)));
            no(MIXED, 1, "5 sort ahead of the length " + n, x -> is(x.tray(0, n, 61)));
            no(MIXED, 1, "5 sort ahead of below 0 " + n, x -> is(x.tray(0, n, -1)));
        }
        no(MIXED, 5, "5 61 numbers", x -> is(x.tray(0, 0, 61)));
        no(MIXED, 5, "5 61 numbers in a missing one", x -> is(x.tray(3, 3, 61)));
        no(MIXED, 5, "5 the most numbers", x -> is(x.tray(0, 0, MOST)));
        no(MIXED, 6, "5 -1 numbers", x -> is(x.tray(0, 0, -1)));
        no(MIXED, 6, "5 -1 numbers in a missing one", x -> is(x.tray(3, 3, -1)));
        no(MIXED, 6, "5 the least numbers", x -> is(x.tray(0, 0, LEAST)));
        no(EMPTY, 5, "5 61 numbers at first", x -> is(x.tray(0, 0, 61)));
        no(EMPTY, 6, "5 -1 numbers at first", x -> is(x.tray(0, 0, -1)));
    }

    private static void writeAndRead() {
        int[] none = {-1, 4, LEAST, MOST};
        for (int n : none) {
            no(MIXED, 1, "6 tray " + n, x -> is(x.write(n, 0, 1)));
            no(MIXED, 1, "6 tray ahead of the place " + n, x -> is(x.write(n, -1, 1)));
            no(MIXED, 1, "7 tray " + n, x -> x.read(n, 0));
            no(MIXED, 1, "7 tray ahead of the place " + n, x -> x.read(n, 99));
            no(MIXED, 4, "6 place " + n, x -> is(x.write(0, n, 1)));
            no(MIXED, 4, "7 place " + n, x -> x.read(0, n));
            no(MIXED, 3, "6 a missing one ahead of the place " + n, x -> is(x.write(3, n, 1)));
            no(MIXED, 3, "7 a missing one ahead of the place " + n, x -> x.read(3, n));
        }
        no(MIXED, 3, "6 a missing one", x -> is(x.write(3, 0, 1)));
        no(MIXED, 3, "7 a missing one", x -> x.read(3, 0));
        no(MIXED, 4, "6 place 2 of two", x -> is(x.write(1, 2, 1)));
        no(MIXED, 4, "7 place 2 of two", x -> x.read(1, 2));
        no(MIXED, 4, "6 place 0 of none", x -> is(x.write(2, 0, 1)));
        no(MIXED, 4, "7 place 0 of none", x -> x.read(2, 0));
        no(SIXTY, 4, "6 place 60 of sixty", x -> is(x.write(0, 60, 1)));
        no(SIXTY, 4, "7 place 60 of sixty", x -> x.read(0, 60));
        for (int i = 0; i < 4; i++) {
            int tray = i;
            no(EMPTY, 3, "6 missing at first: " + i, x -> is(x.write(tray, 0, 1)));
            no(EMPTY, 3, "7 missing at first: " + i, x -> x.read(tray, 0));
        }
    }

    private static void pour() {
        int[] none = {-1, 4, LEAST, MOST};
        for (int n : none) {
            no(MIXED, 1, "8 from tray " + n, x -> is(x.pour(n, 0, 0, 0, 1)));
            no(MIXED, 1, "8 to tray " + n, x -> is(x.pour(0, 0, n, 0, 1)));
            no(MIXED, 4, "8 from place " + n, x -> is(x.pour(0, n, 1, 0, 1)));
        }
        no(MIXED, 3, "8 from a missing one", x -> is(x.pour(3, 0, 0, 0, 1)));
        no(MIXED, 3, "8 to a missing one", x -> is(x.pour(0, 0, 3, 0, 1)));
        no(MIXED, 3, "8 both missing, the same", x -> is(x.pour(3, 0, 3, 0, 0)));
        no(MIXED, 11, "8 unlike sorts", x -> is(x.pour(0, 0, 2, 0, 0)));
        no(MIXED, 11, "8 unlike sorts, the other way", x -> is(x.pour(2, 0, 0, 0, 0)));
        no(MIXED, 6, "8 -1 numbers", x -> is(x.pour(0, 0, 1, 0, -1)));
        no(MIXED, 6, "8 the least numbers", x -> is(x.pour(0, 0, 1, 0, LEAST)));
        no(MIXED, 4, "8 to place -1", x -> is(x.pour(0, 0, 1, -1, 1)));
        no(MIXED, 4, "8 to the least place", x -> is(x.pour(0, 0, 1, LEAST, 1)));
        no(MIXED, 4, "8 to the most place", x -> is(x.pour(0, 0, 1, MOST, 1)));
        no(MIXED, 4, "8 five of four", x -> is(x.pour(0, 0, 0, 0, 5)));
        no(MIXED, 4, "8 one beyond the last", x -> is(x.pour(0, 4, 1, 0, 1)));
        no(MIXED, 4, "8 two from the last on", x -> is(x.pour(0, 3, 1, 0, 2)));
        no(MIXED, 4, "8 three into two", x -> is(x.pour(0, 0, 1, 0, 3)));
        no(MIXED, 4, "8 two to the last on", x -> is(x.pour(0, 0, 1, 1, 2)));
        no(MIXED, 4, "8 up in the same beyond its end", x -> is(x.pour(0, 0, 0, 1, 4)));
        no(MIXED, 4, "8 the most numbers", x -> is(x.pour(0, 0, 1, 0, MOST)));
        no(MIXED, 4, "8 places that wrap around", x -> is(x.pour(0, 1, 1, 1, MOST)));
        no(MIXED, 4, "8 the most of all", x -> is(x.pour(0, MOST, 1, MOST, MOST)));
        no(MIXED, 4, "8 none from place -1", x -> is(x.pour(0, -1, 1, 0, 0)));
        no(MIXED, 4, "8 none to place -1", x -> is(x.pour(0, 0, 1, -1, 0)));
    }

    private static void pourInOrder() {
        no(MIXED, 1, "8 no such tray ahead of a missing one", x -> is(x.pour(3, -1, 4, -1, -1)));
        no(MIXED, 1, "8 no such tray, to a missing one", x -> is(x.pour(-1, -1, 3, -1, -1)));
        no(MIXED, 3, "8 a missing one ahead of -1 numbers", x -> is(x.pour(3, 0, 0, 0, -1)));
        no(MIXED, 3, "8 to a missing one ahead of -1 numbers", x -> is(x.pour(0, 0, 3, 0, -1)));
        no(MIXED, 3, "8 a missing one ahead of a place", x -> is(x.pour(0, 9, 3, 9, 1)));
        no(MIXED, 11, "8 unlike sorts ahead of -1 numbers", x -> is(x.pour(0, 0, 2, 0, -1)));
        no(MIXED, 11, "8 unlike sorts ahead of a place", x -> is(x.pour(0, 9, 2, 9, 1)));
        no(MIXED, 6, "8 -1 numbers ahead of a place", x -> is(x.pour(0, -1, 1, 9, -1)));
    }

    private static void texts() {
        int[] none = {-1, 21, 301, 901, LEAST, MOST};
        for (int n : none) {
            no(MIXED, 5, "10 the first " + n + " of twenty", x -> x.family(n));
            no(MIXED, 5, "11 the first " + n + " of twenty", x -> x.years(n));
        }
        no(EMPTY, 5, "10 the first one of none", x -> x.family(1));
        no(EMPTY, 5, "10 -1 of none", x -> x.family(-1));
        no(EMPTY, 5, "11 the first one of none", x -> x.years(1));
        no(EMPTY, 5, "11 -1 of none", x -> x.years(-1));
        no(FULL, 5, "10 901 of 900", x -> x.family(901));
        no(FULL, 5, "11 301, though they are there", x -> x.years(301));
        no(FULL, 5, "11 900, though they are there", x -> x.years(900));
        RustFamily x = Scenes.full();
        Check.refused(x, "9 a seventh person, for a STATUS", x.born(1, true), 7);
        Check.due("9 above 900", x.feed(0, 0, 0, 0, 0), RustFamily.NONE);
        Check.due("9 has no STATUS", x.status(), 7);
        Check.same("9 nothing else has changed", Probe.all(x), Probe.all(Scenes.full()));
    }

    private static void told() {
        int[] none = {-1, 12, LEAST, MOST};
        for (int n : none) {
            no(MIXED, 5, "13 what " + n, x -> x.many(n));
            no(EMPTY, 5, "13 what, at first " + n, x -> x.many(n));
        }
        int[] nobody = {-1, 3, LEAST, MOST};
        for (int n : nobody) {
            no(MIXED, 2, "14 person " + n, x -> x.person(n, 0));
            no(MIXED, 2, "14 the person ahead of what " + n, x -> x.person(n, 5));
            no(MIXED, 2, "15 thing " + n, x -> x.thing(n, 0));
            no(MIXED, 2, "15 the thing ahead of what " + n, x -> x.thing(n, 7));
            no(MIXED, 2, "16 person " + n, x -> x.love(n, 0));
            no(MIXED, 2, "16 thing " + n, x -> x.love(0, n));
            no(MIXED, 2, "16 both " + n, x -> x.love(n, n));
        }
        int[] what = {-1, 5, LEAST, MOST};
        for (int n : what) {
            no(MIXED, 5, "14 what " + n, x -> x.person(0, n));
        }
        int[] whatOfThings = {-1, 7, LEAST, MOST};
        for (int n : whatOfThings) {
            no(MIXED, 5, "15 what " + n, x -> x.thing(0, n));
        }
        no(EMPTY, 2, "14 nobody at first", x -> x.person(0, 0));
        no(EMPTY, 2, "15 nothing at first", x -> x.thing(0, 0));
        no(EMPTY, 2, "16 nobody at first", x -> x.love(0, 0));
        no(FULL, 2, "14 a seventh", x -> x.person(6, 0));
        no(FULL, 2, "15 a ninth", x -> x.thing(8, 0));
        no(FULL, 2, "16 a seventh", x -> x.love(6, 0));
        no(FULL, 2, "16 a ninth", x -> x.love(0, 8));
    }

    private static void copyRust() {
        int[] none = {-1, 4, LEAST, MOST};
        for (int n : none) {
            no(MIXED, 1, "17 tray " + n, x -> x.copyRust(n));
        }
        no(MIXED, 3, "17 a missing one", x -> x.copyRust(3));
        no(MIXED, 4, "17 three into two", x -> x.copyRust(1));
        no(MIXED, 4, "17 three into none", x -> x.copyRust(2));
        no(FULL, 4, "17 eight into seven", x -> x.copyRust(0));
        no(EMPTY, 3, "17 nothing into a missing one", x -> x.copyRust(0));
    }

    private static void year() {
        int[] none = {0, -1, 100, LEAST, MOST};
        for (int n : none) {
            no(MIXED, 5, "18 years " + n, x -> x.year(n));
            no(FULL, 5, "18 a number that can't be ahead of one too many " + n, x -> x.year(n));
        }
        no(FULL, 7, "18 one above 9,999", x -> x.year(1));
        no(FULL, 7, "18 99 above 9,999", x -> x.year(99));
        Supplier<RustFamily> late = () -> {
            RustFamily x = Check.with("shows 0;life 120;person a age 0 of;thing b thick 999;loves a b 1;");
            for (int i = 0; i < 100; i++) {
                x.year(99);
            }
            x.year(89);
            x.born(0, true);
            x.dote(1, 0, 1);
            return x;
        };
        no(late, 7, "18 11 in the year 9,989: not the 10 either", x -> x.year(11));
    }

    private static void dote() {
        int[] nobody = {-1, 3, LEAST, MOST};
        for (int n : nobody) {
            no(MIXED, 2, "19 person " + n, x -> x.dote(n, 0, 9));
            no(MIXED, 2, "19 thing " + n, x -> x.dote(0, n, 9));
            no(MIXED, 2, "19 the person ahead of how much " + n, x -> x.dote(n, 0, 10));
            no(MIXED, 2, "19 the thing ahead of how much " + n, x -> x.dote(0, n, 10));
        }
        int[] much = {-1, 10, LEAST, MOST};
        for (int n : much) {
            no(MIXED, 5, "19 by " + n, x -> x.dote(0, 0, n));
        }
        no(MIXED, 9, "19 by 4: it is so", x -> x.dote(0, 0, 4));
        no(MIXED, 9, "19 by 0: it is so", x -> x.dote(2, 0, 0));
        no(MIXED, 9, "19 by the dead: it is so", x -> x.dote(1, 1, 5));
        no(EMPTY, 2, "19 nobody at first", x -> x.dote(0, 0, 1));
        no(FULL, 2, "19 a seventh", x -> x.dote(6, 0, 1));
        no(FULL, 2, "19 a ninth", x -> x.dote(0, 8, 1));
        no(FULL, 9, "19 by 9: it is so", x -> x.dote(5, 7, 9));
    }

    private static void helpAndHarm() {
        int[] none = {-1, 3, LEAST, MOST};
        for (int n : none) {
            no(MIXED, 2, "20 thing " + n, x -> x.oil(n));
            no(MIXED, 2, "21 thing " + n, x -> x.coat(n, 1));
            no(MIXED, 2, "21 the thing ahead of how much " + n, x -> x.coat(n, 0));
            no(MIXED, 2, "22 thing " + n, x -> x.mend(n));
            no(MIXED, 2, "23 thing " + n, x -> x.breathe(n));
        }
        int[] much = {0, -1, 1000, LEAST, MOST};
        for (int n : much) {
            no(MIXED, 5, "21 by " + n, x -> x.coat(0, n));
            no(MIXED, 5, "21 how much ahead of what is through " + n, x -> x.coat(1, n));
        }
        no(MIXED, 9, "20 through", x -> x.oil(1));
        no(MIXED, 9, "21 through", x -> x.coat(1, 1));
        no(MIXED, 9, "22 through", x -> x.mend(1));
        no(MIXED, 9, "23 through", x -> x.breathe(1));
        no(EMPTY, 2, "20 nothing at first", x -> x.oil(0));
        no(EMPTY, 2, "21 nothing at first", x -> x.coat(0, 1));
        no(EMPTY, 2, "22 nothing at first", x -> x.mend(0));
        no(EMPTY, 2, "23 nothing at first", x -> x.breathe(0));
        no(FULL, 2, "20 a ninth", x -> x.oil(8));
        no(FULL, 2, "21 a ninth", x -> x.coat(8, 1));
        no(FULL, 2, "22 a ninth", x -> x.mend(8));
        no(FULL, 2, "23 a ninth", x -> x.breathe(8));
        no(FULL, 9, "20 through, the eighth", x -> x.oil(7));
        no(FULL, 9, "23 through, the eighth", x -> x.breathe(7));
    }

    private static void forgeAndBorn() {
        int[] thick = {0, -1, 1000, LEAST, MOST};
        for (int n : thick) {
            no(MIXED, 5, "24 thick " + n, x -> x.forge(n));
            no(FULL, 5, "24 a number that can't be ahead of one too many " + n, x -> x.forge(n));
        }
        no(FULL, 7, "24 a ninth", x -> x.forge(1));
        no(FULL, 7, "24 a ninth of 999", x -> x.forge(999));
        int[] age = {-1, 120, LEAST, MOST};
        for (int n : age) {
            no(MIXED, 5, "25 age " + n, x -> x.born(n, true));
            no(FULL, 5, "25 a number that can't be ahead of one too many " + n, x -> x.born(n, false));
        }
        no(FULL, 7, "25 a seventh, though all are dead", x -> x.born(0, true));
        no(FULL, 7, "25 a seventh of 119", x -> x.born(119, false));
        no(CROWD, 7, "25 a seventh, all live", x -> x.born(0, true));
        no(CROWD, 7, "24 a ninth, all whole", x -> x.forge(1));
    }

    private static void rule() {
        int[] what = {-1, 0, 1, 6, 7, LEAST, MOST};
        for (int n : what) {
            no(MIXED, 5, "26 what " + n, x -> is(x.rule(n, 1)));
        }
        int[] least = {0, 1, 0, 0};
        int[] most = {99, 120, 9, 99};
        for (int i = 0; i < 4; i++) {
            int rule = 2 + i;
            int[] much = {least[i] - 1, most[i] + 1, LEAST, MOST};
            for (int n : much) {
                no(MIXED, 5, "26 rule " + rule + " by " + n, x -> is(x.rule(rule, n)));
                no(EMPTY, 5, "26 rule at first " + rule + " by " + n, x -> is(x.rule(rule, n)));
            }
        }
    }

    private static void ahead() {
        int[] none = {-1, 3, LEAST, MOST};
        for (int n : none) {
            no(MIXED, 2, "27 thing " + n, x -> x.rustIn(n, 0));
            no(MIXED, 2, "27 the thing ahead of the years " + n, x -> x.rustIn(n, 201));
            no(MIXED, 2, "28 thing " + n, x -> x.throughIn(n));
            no(MIXED, 2, "31 person " + n, x -> x.showsIn(n));
            no(MIXED, 2, "32 person " + n, x -> x.diesIn(n));
        }
        int[] years = {-1, 201, LEAST, MOST};
        for (int n : years) {
            no(MIXED, 5, "27 years " + n, x -> x.rustIn(0, n));
            no(MIXED, 5, "30 years " + n, x -> x.throughBy(n));
        }
        int[] yearsOfWorst = {-1, 51, LEAST, MOST};
        for (int n : yearsOfWorst) {
            no(MIXED, 5, "33 years " + n, x -> x.worst(n));
            no(EMPTY, 5, "33 years ahead of nobody " + n, x -> x.worst(n));
        }
        no(EMPTY, 2, "27 nothing at first", x -> x.rustIn(0, 0));
        no(EMPTY, 2, "28 nothing at first", x -> x.throughIn(0));
        no(EMPTY, 2, "31 nobody at first", x -> x.showsIn(0));
        no(EMPTY, 2, "32 nobody at first", x -> x.diesIn(0));
        no(FULL, 2, "27 a ninth", x -> x.rustIn(8, 1));
        no(FULL, 2, "28 a ninth", x -> x.throughIn(8));
        no(FULL, 2, "31 a seventh", x -> x.showsIn(6));
        no(FULL, 2, "32 a seventh", x -> x.diesIn(6));
    }

    private static void aheadOfNone() {
        no(MIXED, 8, "28 in none: he dies ahead", x -> x.throughIn(2));
        no(CROWD, 8, "28 in none: nothing is loved", x -> x.throughIn(0));
        no(EMPTY, 8, "29 no things", RustFamily::firstThrough);
        no(CROWD, 8, "29 nothing is loved", RustFamily::firstThrough);
        no(of("life 12;shows 0;person a age 0 of;thing b thick 12;loves a b 1;"), 8, "29 none in 11 years",
            RustFamily::firstThrough);
        no(MIXED, 8, "31 dead", x -> x.showsIn(1));
        no(MIXED, 8, "31 not of the line", x -> x.showsIn(2));
        no(of("shows 50;life 50;person a age 49 of;"), 8, "31 he dies in that very year", x -> x.showsIn(0));
        no(of("shows 99;life 60;person a age 70 of;"), 8, "31 he dies long ahead", x -> x.showsIn(0));
        no(MIXED, 8, "32 dead", x -> x.diesIn(1));
        no(FULL, 8, "32 all are dead", x -> x.diesIn(0));
        no(EMPTY, 8, "33 nobody", x -> x.worst(0));
        no(of("thing b thick 9;"), 8, "33 nobody, but a thing", x -> x.worst(50));
    }

    private static void jars() {
        int[] none = {-1, 3, LEAST, MOST};
        for (int n : none) {
            no(MIXED, 2, "34 thing " + n, x -> x.jars(n, 0));
            no(MIXED, 2, "34 the thing ahead of the years " + n, x -> x.jars(n, 9));
        }
        int[] years = {-1, 9, LEAST, MOST};
        for (int n : years) {
            no(MIXED, 5, "34 years " + n, x -> x.jars(0, n));
            no(MIXED, 5, "34 years ahead of what is through " + n, x -> x.jars(1, n));
            no(MIXED, 5, "35 years " + n, x -> x.jarsFor(1, n));
            no(MIXED, 5, "35 years ahead of what is through " + n, x -> x.jarsFor(2, n));
            no(MIXED, 5, "35 years for none " + n, x -> x.jarsFor(0, n));
        }
        int[] sets = {-1, 8, 9, LEAST, MOST};
        for (int n : sets) {
            no(MIXED, 5, "35 set " + n, x -> x.jarsFor(n, 0));
        }
        no(MIXED, 8, "34 through now", x -> x.jars(1, 0));
        no(MIXED, 8, "34 through now, in 8", x -> x.jars(1, 8));
        Supplier<RustFamily> thin = of("person a age 50 of;thing b thick 4;thing c thick 99;loves a b 8;");
        no(thin, 8, "34 through in spite of a jar", x -> x.jars(0, 1));
        no(thin, 8, "35 one through in spite of a jar", x -> x.jarsFor(3, 1));
        no(MIXED, 8, "35 one is through now", x -> x.jarsFor(7, 0));
        no(MIXED, 8, "35 it alone", x -> x.jarsFor(2, 8));
        no(EMPTY, 2, "34 nothing at first", x -> x.jars(0, 0));
        no(EMPTY, 5, "35 what there is none of, at first", x -> x.jarsFor(1, 0));
        no(FULL, 2, "34 a ninth", x -> x.jars(8, 0));
        no(FULL, 5, "35 a ninth", x -> x.jarsFor(256, 0));
    }

    private static void less() {
        int[] none = {-1, 3, LEAST, MOST};
        for (int n : none) {
            no(MIXED, 2, "36 person " + n, x -> x.less(n, 0, 0));
            no(MIXED, 2, "36 thing " + n, x -> x.less(0, n, 0));
            no(MIXED, 2, "36 ahead of the years " + n, x -> x.less(n, n, 51));
        }
        int[] years = {-1, 51, LEAST, MOST};
        for (int n : years) {
            no(MIXED, 5, "36 years " + n, x -> x.less(0, 0, n));
            no(MIXED, 5, "36 years ahead of what is through " + n, x -> x.less(0, 1, n));
        }
        no(MIXED, 8, "36 through now", x -> x.less(0, 1, 0));
        no(of("person a age 50 of;person b age 50 of;thing c thick 3;loves a c 1;loves b c 3;"), 8,
            "36 through whatever is taken", x -> x.less(0, 0, 1));
        no(EMPTY, 2, "36 nobody at first", x -> x.less(0, 0, 0));
        no(FULL, 2, "36 a seventh", x -> x.less(6, 0, 0));
        no(FULL, 2, "36 a ninth", x -> x.less(0, 8, 0));
    }

    /** What stands behind SEEN, SURE of a PERSON and ASK alike. */
    private interface Looker {
        int look(RustFamily x, int tray, int n);
    }

    private static void looks(String what, Looker it) {
        int[] none = {-1, 4, LEAST, MOST};
        for (int n : none) {
            no(MIXED, 1, what + " tray " + n, x -> it.look(x, n, 0));
            no(MIXED, 1, what + " tray ahead of the twos " + n, x -> it.look(x, n, 21));
            no(MIXED, 1, what + " tray ahead of below 0 " + n, x -> it.look(x, n, -1));
        }
        no(MIXED, 3, what + " a missing one", x -> it.look(x, 3, 0));
        no(MIXED, 3, what + " a missing one ahead of the twos", x -> it.look(x, 3, 21));
        no(MIXED, 3, what + " a missing one ahead of below 0", x -> it.look(x, 3, -1));
        no(MIXED, 4, what + " three twos of two", x -> it.look(x, 0, 3));
        no(MIXED, 4, what + " 21 twos of two: too few numbers", x -> it.look(x, 0, 21));
        no(MIXED, 4, what + " the most twos", x -> it.look(x, 0, MOST));
        no(MIXED, 4, what + " twos by which numbers wrap around", x -> it.look(x, 0, 1 << 30));
        no(MIXED, 4, what + " one two of none", x -> it.look(x, 2, 1));
        no(MIXED, 5, what + " -1 twos", x -> it.look(x, 0, -1));
        no(MIXED, 5, what + " -1 twos of none", x -> it.look(x, 2, -1));
        no(MIXED, 5, what + " the least twos", x -> it.look(x, 0, LEAST));
        no(MIXED, 5, what + " a damp of 10", x -> it.look(x, 0, 2));
        no(SIXTY, 5, what + " 21 twos, though they are there", x -> it.look(x, 0, 21));
        no(SIXTY, 5, what + " 30 twos, though they are there", x -> it.look(x, 0, 30));
        no(SIXTY, 4, what + " 31 twos of 30", x -> it.look(x, 0, 31));
        for (int sort = 0; sort < 4; sort++) {
            no(twos(sort, 10, 0), 5, what + " a damp of 10, sort " + sort, x -> it.look(x, 0, 1));
            no(twos(sort, -1, 0), 5, what + " a damp of -1, sort " + sort, x -> it.look(x, 0, 1));
            no(twos(sort, 0, -1), 5, what + " a bite of -1, sort " + sort, x -> it.look(x, 0, 1));
        }
        no(twos(3, 1L << 32, 0), 5, what + " a damp above 32 bits", x -> it.look(x, 0, 1));
        no(twos(3, Long.MAX_VALUE, 0), 5, what + " the most damp", x -> it.look(x, 0, 1));
        no(twos(3, Long.MIN_VALUE, 0), 5, what + " the least damp", x -> it.look(x, 0, 1));
        no(twos(3, 0, Long.MIN_VALUE), 5, what + " the least bite", x -> it.look(x, 0, 1));
    }

    /** One in whom it SHOWS, a TRAY of one two, with one number more than it takes. */
    private static Supplier<RustFamily> twos(int sort, long damp, long bite) {
        return () -> {
            RustFamily x = new RustFamily();
            x.born(50, true);
            x.born(50, false);
            x.tray(0, sort, 3);
            x.write(0, 0, damp);
            x.write(0, 1, bite);
            return x;
        };
    }

    private static void seen() {
        looks("37", RustFamily::seen);
        no(twos(0, 4, 0), 4, "37 two twos of three numbers", x -> x.seen(0, 2));
    }

    private static void sure() {
        looks("38", (x, tray, n) -> x.sure(0, tray, n));
        int[] none = {-1, 3, LEAST, MOST};
        for (int n : none) {
            no(MIXED, 2, "38 person " + n, x -> x.sure(n, 0, 1));
            no(MIXED, 1, "38 the tray ahead of the person " + n, x -> x.sure(n, 4, 1));
            no(MIXED, 2, "38 the person ahead of a missing one " + n, x -> x.sure(n, 3, 1));
            no(MIXED, 2, "38 the person ahead of too few " + n, x -> x.sure(n, 0, 9));
            no(MIXED, 2, "38 the person ahead of a damp of 10 " + n, x -> x.sure(n, 0, 2));
        }
        no(EMPTY, 2, "38 nobody at first", x -> x.sure(0, 0, 0));
        no(MIXED, 8, "38 it does not show in the dead", x -> x.sure(1, 0, 1));
        no(MIXED, 8, "38 it does not show in who is not of the line", x -> x.sure(2, 0, 1));
        no(MIXED, 5, "38 a damp of 10 ahead of one in whom it does not show", x -> x.sure(2, 0, 2));
        no(MIXED, 3, "38 a missing one ahead of one in whom it does not show", x -> x.sure(2, 3, 0));
        no(MIXED, 4, "38 too few ahead of one in whom it does not show", x -> x.sure(2, 0, 3));
        no(MIXED, 8, "38 not the same in all", x -> x.sure(0, 0, 0));
        no(twos(0, 4, 4), 8, "38 no way", x -> x.sure(0, 0, 1));
        no(twos(0, 2, 1), 8, "38 by 2 or by 3", x -> x.sure(0, 0, 1));
        no(twos(0, 2, 0), 8, "38 by 0 or by 1", x -> x.sure(0, 0, 1));
        no(FULL, 8, "38 all are dead", x -> x.sure(0, 0, 0));
    }

    private static void ask() {
        looks("39", RustFamily::ask);
        no(twos(0, 4, 3), 8, "39 one way", x -> x.ask(0, 1));
        no(twos(0, 4, 4), 8, "39 no way", x -> x.ask(0, 1));
        no(FULL, 8, "39 nobody: one way", x -> x.ask(0, 0));
    }

    private static void keeping() {
        int[] sets = {-1, 8, 9, 64, LEAST, MOST};
        for (int n : sets) {
            no(MIXED, 5, "40 set " + n, x -> x.keeping(n));
            no(MIXED, 5, "41 set " + n, x -> x.keeps(n, 0));
        }
        no(MIXED, 8, "40 two things that are not through for three", x -> x.keeping(7));
        no(MIXED, 8, "41 two things that are not through for three", x -> x.keeps(7, 0));
        no(of("person a age 0;"), 8, "40 nothing for one", x -> x.keeping(1));
        no(of("person a age 0;"), 8, "41 nothing for one", x -> x.keeps(1, 0));
        no(EMPTY, 5, "40 who is not there, at first", x -> x.keeping(1));
        no(FULL, 5, "40 a seventh", x -> x.keeping(64));
        no(FULL, 5, "41 a seventh in the set", x -> x.keeps(65, 0));
        int[] none = {-1, 3, LEAST, MOST};
        for (int n : none) {
            no(MIXED, 2, "41 person " + n, x -> x.keeps(1, n));
            no(MIXED, 2, "41 the person ahead of the set " + n, x -> x.keeps(-1, n));
            no(MIXED, 2, "41 the person ahead of too few things " + n, x -> x.keeps(7, n));
            no(MIXED, 2, "42 person " + n, x -> x.stable(1, n));
            no(MIXED, 2, "42 the person ahead of the set " + n, x -> x.stable(-1, n));
        }
        no(MIXED, 5, "41 he is not in it", x -> x.keeps(5, 1));
        no(MIXED, 5, "41 nobody is in it", x -> x.keeps(0, 0));
        no(MIXED, 5, "41 he is not in it, ahead of too few things", x -> x.keeps(11, 0));
        no(of("person a age 0;person b age 0;"), 5, "41 he is not in it, ahead of no things", x -> x.keeps(1, 1));
        no(EMPTY, 2, "41 nobody at first", x -> x.keeps(0, 0));
        no(FULL, 2, "41 a seventh", x -> x.keeps(63, 6));
    }

    private static void stable() {
        int[] sets = {-1, 8, 9, 64, LEAST, MOST};
        for (int n : sets) {
            no(MIXED, 5, "42 set " + n, x -> x.stable(n, 0));
            no(MIXED, 5, "43 set " + n, x -> x.stables(n));
        }
        no(MIXED, 5, "42 he is not in it", x -> x.stable(5, 1));
        no(MIXED, 5, "42 nobody is in it", x -> x.stable(0, 0));
        no(MIXED, 5, "42 he is not in it, ahead of nothing", x -> x.stable(1, 2));
        no(MIXED, 8, "42 who loves nothing keeps nothing", x -> x.stable(7, 2));
        no(MIXED, 8, "42 who loves what is through alone", x -> x.stable(7, 1));
        no(of("person a age 0;person b age 0;thing c thick 1;loves a c 2;loves b c 1;"), 8,
            "42 from whom it was taken", x -> x.stable(3, 0));
        no(EMPTY, 2, "42 nobody at first", x -> x.stable(0, 0));
        no(EMPTY, 5, "43 who is not there, at first", x -> x.stables(1));
        no(FULL, 2, "42 a seventh", x -> x.stable(63, 6));
        no(FULL, 5, "43 a seventh", x -> x.stables(64));
        int[] five = {31, 47, 62, 63};
        for (int n : five) {
            no(CROWD, 5, "43 more than four, set " + n, x -> x.stables(n));
        }
    }

    private static void game() {
        int[] none = {-1, 3, LEAST, MOST};
        for (int n : none) {
            no(MIXED, 2, "44 thing " + n, x -> x.game(n, 0, 1));
            no(MIXED, 2, "44 the other " + n, x -> x.game(0, n, 1));
            no(MIXED, 2, "44 ahead of itself and the turns " + n, x -> x.game(n, n, 5));
            no(MIXED, 2, "45 thing " + n, x -> x.moveOf(n, 0, 1));
            no(MIXED, 2, "45 the other " + n, x -> x.moveOf(0, n, 1));
            no(MIXED, 2, "45 ahead of itself and the turns " + n, x -> x.moveOf(n, n, 0));
        }
        int[] turns = {-1, 5, LEAST, MOST};
        for (int n : turns) {
            no(MIXED, 5, "44 turns " + n, x -> x.game(0, 2, n));
            no(MIXED, 5, "45 turns " + n, x -> x.moveOf(0, 2, n));
        }
        no(MIXED, 5, "45 no turns", x -> x.moveOf(0, 2, 0));
        no(MIXED, 5, "44 itself", x -> x.game(0, 0, 1));
        no(MIXED, 5, "44 itself, without turns", x -> x.game(2, 2, 0));
        no(MIXED, 5, "45 itself", x -> x.moveOf(0, 0, 1));
        no(EMPTY, 2, "44 nothing at first", x -> x.game(0, 0, 0));
        no(EMPTY, 2, "45 nothing at first", x -> x.moveOf(0, 1, 1));
        no(FULL, 2, "44 a ninth", x -> x.game(0, 8, 0));
        no(FULL, 2, "45 a ninth", x -> x.moveOf(8, 0, 1));
    }

    private static void odds() {
        int[] none = {-1, 3, LEAST, MOST};
        for (int n : none) {
            no(MIXED, 2, "46 thing " + n, x -> is(x.lasts(n, 0)));
            no(MIXED, 2, "46 the thing ahead of the years " + n, x -> is(x.lasts(n, 7)));
            no(MIXED, 2, "47 thing " + n, x -> x.thickFor(n, 0, 0));
            no(MIXED, 2, "47 the thing ahead of the others " + n, x -> x.thickFor(n, 7, 11));
        }
        int[] years = {-1, 7, LEAST, MOST};
        for (int n : years) {
            no(MIXED, 5, "46 years " + n, x -> is(x.lasts(0, n)));
            no(MIXED, 5, "47 years " + n, x -> x.thickFor(0, n, 0));
        }
        int[] tenths = {-1, 11, LEAST, MOST};
        for (int n : tenths) {
            no(MIXED, 5, "47 tenths " + n, x -> x.thickFor(0, 0, n));
        }
        Supplier<RustFamily> rusted = () -> {
            RustFamily x = Check.with("breath 99;thing b thick 999;");
            for (int i = 0; i < 11; i++) {
                x.breathe(0);
            }
            return x;
        };
        no(rusted, 8, "47 rust of 999: by none", x -> x.thickFor(0, 0, 1));
        no(rusted, 8, "47 rust of 999: by none, in 6", x -> x.thickFor(0, 6, 10));
        no(rusted, 5, "47 11 tenths ahead of none", x -> x.thickFor(0, 0, 11));
        no(EMPTY, 2, "46 nothing at first", x -> is(x.lasts(0, 0)));
        no(EMPTY, 2, "47 nothing at first", x -> x.thickFor(0, 0, 0));
        no(FULL, 2, "46 a ninth", x -> is(x.lasts(8, 0)));
        no(FULL, 2, "47 a ninth", x -> x.thickFor(8, 0, 0));
    }

    private static void blame() {
        int[] none = {-1, 3, LEAST, MOST};
        for (int n : none) {
            no(MIXED, 2, "48 person " + n, x -> is(x.blame(n)));
        }
        no(EMPTY, 2, "48 nobody ahead of nothing", x -> is(x.blame(0)));
        no(CROWD, 8, "48 nothing is loved", x -> is(x.blame(0)));
        no(CROWD, 2, "48 a seventh, nothing is loved", x -> is(x.blame(6)));
        no(FULL, 8, "48 nothing is loved by the living", x -> is(x.blame(5)));
        no(of("person a age 50;person b age 39 of;thing c thick 1;loves a c 9;loves b c 9;"), 8,
            "48 it shows in nobody", x -> is(x.blame(0)));
    }

    private static void live() {
        int[] seeds = {-1, 10000, LEAST, MOST};
        for (int n : seeds) {
            no(MIXED, 5, "49 seed " + n, x -> x.live(n));
            no(EMPTY, 5, "49 a seed ahead of no years " + n, x -> x.live(n));
        }
        no(EMPTY, 8, "49 no years", x -> x.live(0));
        no(of("thing a thick 1;"), 8, "49 no years of a family", x -> x.live(9999));
        int[] what = {-1, 5, LEAST, MOST};
        for (int n : what) {
            no(MIXED, 5, "50 what " + n, x -> x.lived(n));
            no(EMPTY, 5, "50 what ahead of none " + n, x -> x.lived(n));
        }
        for (int i = 0; i < 5; i++) {
            int told = i;
            no(EMPTY, 8, "50 there was none: " + i, x -> x.lived(told));
            no(FULL, 8, "50 years are told, not lived: " + i, x -> x.lived(told));
        }
    }

    private static void mean() {
        int[] seeds = {-1, 10000, LEAST, MOST};
        for (int n : seeds) {
            no(MIXED, 5, "51 seed " + n, x -> is(x.mean(n, 1)));
            no(EMPTY, 5, "51 a seed ahead of no years " + n, x -> is(x.mean(n, 1)));
        }
        int[] many = {0, -1, 21, LEAST, MOST};
        for (int n : many) {
            no(MIXED, 5, "51 seeds " + n, x -> is(x.mean(0, n)));
            no(MIXED, 5, "51 seeds from 9,999 on " + n, x -> is(x.mean(9999, n)));
            no(EMPTY, 5, "51 seeds ahead of no years " + n, x -> is(x.mean(0, n)));
        }
        no(MIXED, 5, "51 the last of two is 10,000", x -> is(x.mean(9999, 2)));
        no(MIXED, 5, "51 the last of twenty is 10,000", x -> is(x.mean(9981, 20)));
        no(MIXED, 5, "51 numbers that wrap around", x -> is(x.mean(MOST, MOST)));
        no(EMPTY, 5, "51 the last above 9,999 ahead of no years", x -> is(x.mean(9999, 2)));
        no(EMPTY, 8, "51 no years", x -> is(x.mean(0, 1)));
    }

    private static void marks() {
        no(FULL, 7, "52 a fourth", RustFamily::mark);
        no(EMPTY, 8, "53 none", RustFamily::back);
        Supplier<RustFamily> usedUp = () -> {
            RustFamily x = Scenes.mixed();
            x.back();
            x.back();
            return x;
        };
        no(usedUp, 8, "53 none any more", RustFamily::back);
    }
}
