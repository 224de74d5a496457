/** Promises 27 to 36: YEARS ahead, oil, less love. */
public final class AheadTest {
    /** One who loves two things by 8 and by 3: bites of 8 and 3 a YEAR, for 5 YEARS; dies in the sixth. */
    private static final String ONE = "person a age 64 of;thing b thick 30;thing c thick 99 coat 7;loves a b 8;loves a c 3;";

    private AheadTest() {
    }

    public static void main(String[] args) {
        rustIn();
        throughIn();
        firstThrough();
        throughBy();
        showsIn();
        diesIn();
        worst();
        jars();
        jarsWithOil();
        jarsFor();
        less();
        nothingChanges();
        Check.end("AheadTest");
    }

    private static void rustIn() {
        RustFamily x = Check.with(ONE);
        Check.fine(x, "27 now", x.rustIn(0, 0), 0);
        Check.fine(x, "27 in 3", x.rustIn(0, 3), 24);
        Check.fine(x, "27 in 4", x.rustIn(0, 4), 32);
        Check.fine(x, "27 through: no more", x.rustIn(0, 200), 32);
        Check.fine(x, "27 the coat first", x.rustIn(1, 2), 0);
        Check.fine(x, "27 then rust", x.rustIn(1, 3), 2);
        Check.fine(x, "27 until he dies", x.rustIn(1, 200), 8);
        x.oil(0);
        Check.fine(x, "27 oil", x.rustIn(0, 4), 20);
        Check.refused(x, "27 201", x.rustIn(0, 201), 5);
        Check.refused(x, "27 -1", x.rustIn(0, -1), 5);
        Check.refused(x, "27 no thing", x.rustIn(2, 201), 2);
        for (int i = 0; i < 102; i++) {
            x.year(99);
        }
        x.born(50, true);
        x.dote(1, 1, 4);
        Check.fine(x, "27 year 9,999 does not matter", x.rustIn(1, 10), 48);
    }

    private static void throughIn() {
        RustFamily x = Check.with(ONE);
        Check.fine(x, "28 in 4", x.throughIn(0), 4);
        Check.refused(x, "28 in none", x.throughIn(1), 8);
        Check.refused(x, "28 no thing", x.throughIn(2), 2);
        x.year(4);
        Check.fine(x, "28 now", x.throughIn(0), 0);
        // 119 YEARS of 1: the longest that can be.
        x = Check.with("shows 0;life 120;person a age 0 of;thing b thick 119;thing c thick 120;loves a b 1;loves a c 1;");
        Check.fine(x, "28 late", x.throughIn(0), 119);
        Check.refused(x, "28 too late", x.throughIn(1), 8);
    }

    private static void firstThrough() {
        RustFamily x = Check.with(Check.FAMILY);
        Check.fine(x, "29 the knife", x.firstThrough(), 2);
        x = Check.with("person a age 50 of;thing b thick 9;thing c thick 5;thing d thick 6;"
            + "loves a b 1;loves a c 3;loves a d 3;");
        Check.fine(x, "29 the first of several", x.firstThrough(), 1);
        x = Check.with("thing a thick 1;");
        Check.refused(x, "29 none", x.firstThrough(), 8);
        x = Check.with("breath 9;thing a thick 10;thing b thick 9;");
        x.breathe(1);
        Check.fine(x, "29 now", x.firstThrough(), 1);
    }

    private static void throughBy() {
        RustFamily x = Check.with(Check.FAMILY);
        Check.fine(x, "30 now", x.throughBy(0), 0);
        Check.fine(x, "30 in 2", x.throughBy(2), 0);
        Check.fine(x, "30 in 3", x.throughBy(3), 4);
        Check.fine(x, "30 in 8", x.throughBy(8), 5);
        Check.fine(x, "30 in 200", x.throughBy(200), 7);
        Check.refused(x, "30 in 201", x.throughBy(201), 5);
        Check.refused(x, "30 in -1", x.throughBy(-1), 5);
    }

    private static void showsIn() {
        RustFamily x = Check.with("shows 50;life 60;person a age 30 of;person b age 50 of;person c age 80 of;"
            + "person d age 30;person e age 0 of;");
        Check.fine(x, "31 in 20", x.showsIn(0), 20);
        Check.fine(x, "31 now", x.showsIn(1), 0);
        Check.fine(x, "31 now, whatever the age", x.showsIn(2), 0);
        Check.refused(x, "31 not of the line", x.showsIn(3), 8);
        Check.fine(x, "31 in 50", x.showsIn(4), 50);
        Check.refused(x, "31 nobody", x.showsIn(5), 2);
        x.rule(2, 59);
        Check.fine(x, "31 for a year", x.showsIn(0), 29);
        x.rule(2, 60);
        Check.refused(x, "31 he dies ahead", x.showsIn(0), 8);
        x.year(1);
        Check.refused(x, "31 dead", x.showsIn(2), 8);
    }

    private static void diesIn() {
        RustFamily x = Check.with("life 60;person a age 30 of;person b age 59;person c age 80;");
        Check.fine(x, "32 in 30", x.diesIn(0), 30);
        Check.fine(x, "32 in 1", x.diesIn(1), 1);
        Check.fine(x, "32 older: in 1", x.diesIn(2), 1);
        Check.refused(x, "32 nobody", x.diesIn(3), 2);
        x.year(1);
        Check.refused(x, "32 dead", x.diesIn(1), 8);
    }

    private static void worst() {
        RustFamily x = Check.with(Check.FAMILY);
        Check.fine(x, "33 abe", x.worst(3), 0);
        Check.fine(x, "33 of several the first", x.worst(0), 0);
        Check.refused(x, "33 51", x.worst(51), 5);
        Check.refused(x, "33 -1", x.worst(-1), 5);
        x = Check.with("person a age 20 of;person b age 39 of;person c age 41 of;thing d thick 900;thing e thick 3;"
            + "loves a d 9;loves b d 5;loves c d 4;loves c e 9;");
        Check.fine(x, "33 in 1: c, who does 13", x.worst(1), 2);
        Check.fine(x, "33 in 50: the youngest", x.worst(50), 0);
        x = Check.with("person a age 50 of;person b age 50 of;person c age 50 of;thing d thick 99;loves b d 3;loves c d 2;");
        Check.fine(x, "33 the second", x.worst(5), 1);
        x = new RustFamily();
        Check.refused(x, "33 no people", x.worst(3), 8);
        Check.refused(x, "33 no people, in 51", x.worst(51), 5);
    }

    private static void jars() {
        RustFamily x = Check.with(ONE);
        // 8 a YEAR, 4 with a jar; 29 is what it can bear.
        Check.fine(x, "34 none", x.jars(0, 3), 0);
        Check.fine(x, "34 one", x.jars(0, 4), 1);
        Check.fine(x, "34 three", x.jars(0, 5), 3);
        Check.fine(x, "34 he dies then", x.jars(0, 8), 3);
        Check.refused(x, "34 9", x.jars(0, 9), 5);
        Check.refused(x, "34 -1", x.jars(0, -1), 5);
        Check.refused(x, "34 no thing", x.jars(2, 9), 2);
        x.year(3);
        Check.refused(x, "34 in spite of all", x.jars(0, 2), 8);
        Check.fine(x, "34 not yet", x.jars(0, 0), 0);
        Check.fine(x, "34 one jar", x.jars(0, 1), 1);
        x.year(1);
        Check.refused(x, "34 through now", x.jars(0, 0), 8);
        // 3 a YEAR, then 12: the jar goes where it saves most.
        x = Check.with("person a age 50 of;person b age 38 of;thing c thick 16;loves a c 3;loves b c 9;");
        Check.fine(x, "34 in the best year", x.jars(0, 2), 0);
        Check.fine(x, "34 in the best years", x.jars(0, 3), 2);
        x = Check.with("person a age 50 of;person b age 38 of;thing c thick 13;loves a c 3;loves b c 9;");
        Check.fine(x, "34 not in the first", x.jars(0, 2), 1);
    }

    private static void jarsWithOil() {
        RustFamily x = Check.with(ONE);
        x.oil(0);
        // 4, 4, 4, 8, 8: 28, which it can bear.
        Check.fine(x, "34 oil lasts besides", x.jars(0, 5), 0);
        x.breathe(0);
        Check.fine(x, "34 a jar where there is no oil", x.jars(0, 5), 1);
        x.breathe(0);
        x.breathe(0);
        Check.fine(x, "34 two jars", x.jars(0, 5), 2);
        x.breathe(0);
        Check.refused(x, "34 jars do not help what has oil", x.jars(0, 5), 8);
        x = Check.with(ONE);
        x.coat(0, 3);
        Check.fine(x, "34 the coat bears, too", x.jars(0, 5), 2);
    }

    private static void jarsFor() {
        RustFamily x = Check.with("person a age 50 of;thing b thick 30;thing c thick 30;thing d thick 2;"
            + "loves a b 8;loves a c 8;loves a d 8;");
        Check.fine(x, "35 none of them", x.jarsFor(0, 8), 0);
        Check.fine(x, "35 one", x.jarsFor(1, 4), 1);
        Check.fine(x, "35 all together", x.jarsFor(3, 5), 6);
        Check.refused(x, "35 one in spite of all", x.jarsFor(7, 1), 8);
        Check.fine(x, "35 now", x.jarsFor(7, 0), 0);
        Check.refused(x, "35 what there is none of", x.jarsFor(8, 0), 5);
        Check.refused(x, "35 below 0", x.jarsFor(-1, 0), 5);
        Check.refused(x, "35 9", x.jarsFor(1, 9), 5);
        Check.refused(x, "35 -1", x.jarsFor(1, -1), 5);
    }

    private static void less() {
        RustFamily x = Check.with("person a age 50 of;person b age 38 of;thing c thick 20;loves a c 5;loves b c 7;");
        Check.fine(x, "36 none", x.less(0, 0, 2), 0);
        // 5 + 12 + 12 = 29: 10 too many, of a three times, of b twice.
        Check.fine(x, "36 of a", x.less(0, 0, 3), 4);
        Check.fine(x, "36 of b", x.less(1, 0, 3), 5);
        Check.refused(x, "36 of a it does not help", x.less(0, 0, 4), 8);
        Check.refused(x, "36 nor of b", x.less(1, 0, 4), 8);
        Check.refused(x, "36 51", x.less(0, 0, 51), 5);
        Check.refused(x, "36 -1", x.less(0, 0, -1), 5);
        Check.refused(x, "36 nobody", x.less(2, 0, 51), 2);
        Check.refused(x, "36 no thing", x.less(0, 1, 0), 2);
        x.year(3);
        Check.refused(x, "36 through now", x.less(0, 0, 0), 8);
    }

    private static void nothingChanges() {
        Pair pair = new Pair();
        boolean same = pair.feedText(Check.FAMILY) && pair.same("family", Check.FAMILY.length());
        for (int i = 0; i < 4; i++) {
            same = same && pair.same("rustIn", i, 50) && pair.same("throughIn", i) && pair.same("jars", i, 3)
                && pair.same("less", 0, i, 9) && pair.same("showsIn", i) && pair.same("diesIn", i);
        }
        same = same && pair.same("firstThrough") && pair.same("worst", 50) && pair.same("throughBy", 200);
        Check.due("27 to 36 change nothing", same && pair.sameState(), true);
    }
}
