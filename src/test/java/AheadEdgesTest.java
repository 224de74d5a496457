/** The edges of ==== 3, and of promises 27 to 48 as far as they are taken. */
public final class AheadEdgesTest {
    /** One in whom it SHOWS for 60 YEARS and more: what he loves by 4 is bitten by the DAMP each YEAR. */
    private static final String LONG = "shows 0;life 120;person a age 20 of;";

    private AheadEdgesTest() {
    }

    public static void main(String[] args) {
        rustIn();
        throughIn();
        firstThrough();
        throughBy();
        showsIn();
        diesIn();
        worst();
        lastYearDoesNotMatter();
        jars();
        jarsAndOil();
        jarsFor();
        less();
        seenTwos();
        seenWays();
        seenNow();
        sure();
        ask();
        keeping();
        keepingThrough();
        firstStable();
        stables();
        stableTies();
        game();
        gameThrough();
        gameMost();
        moveOf();
        lasts();
        lastsOfAges();
        thickFor();
        blame();
        Check.end("AheadEdgesTest");
    }

    private static void rustIn() {
        RustFamily x = Check.with("shows 40;life 44;person a age 38 of;thing b thick 9 coat 1;loves a b 5;");
        int[] due = {0, 0, 4, 9, 9, 9};
        for (int i = 0; i < due.length; i++) {
            Check.fine(x, "27 in " + i, x.rustIn(0, i), due[i]);
        }
        Check.fine(x, "27 in 200", x.rustIn(0, 200), 9);
        // He dies ahead of a second bite.
        x = Check.with("shows 40;life 41;person a age 38 of;thing b thick 99;loves a b 5;");
        Check.fine(x, "27 not shown yet", x.rustIn(0, 1), 0);
        Check.fine(x, "27 in 2", x.rustIn(0, 2), 5);
        Check.fine(x, "27 in 3", x.rustIn(0, 3), 5);
        Check.fine(x, "27 long behind", x.rustIn(0, 200), 5);
        x = Scenes.crowd();
        for (int p = 0; p < 6; p++) {
            x.dote(p, 7, 9);
        }
        x.rule(4, 9);
        Check.fine(x, "27 in 8", x.rustIn(7, 8), 968);
        Check.fine(x, "27 999 at most", x.rustIn(7, 9), 999);
        x = Check.with("life 60;person a age 90 of;thing b thick 9;loves a b 5;");
        Check.fine(x, "27 who is older than LIFE dies in a year", x.rustIn(0, 1), 0);
        x = Check.with("person a age 50 of;thing b thick 99;loves a b 5;");
        x.oil(0);
        Check.fine(x, "27 oil lasts three years", x.rustIn(0, 3), 6);
        Check.fine(x, "27 and no fourth", x.rustIn(0, 4), 11);
    }

    private static void throughIn() {
        RustFamily x = Check.with(LONG + "thing b thick 1;thing c thick 99;thing d thick 100;thing e thick 2;"
            + "loves a b 1;loves a c 1;loves a d 1;");
        Check.fine(x, "28 in 1", x.throughIn(0), 1);
        Check.fine(x, "28 in his last year", x.throughIn(1), 99);
        Check.refused(x, "28 one too thick", x.throughIn(2), 8);
        Check.refused(x, "28 not loved", x.throughIn(3), 8);
        x.rule(5, 2);
        x.breathe(3);
        Check.fine(x, "28 now", x.throughIn(3), 0);
        x = Check.with("shows 0;life 120;person a age 0 of;thing b thick 119;loves a b 1;");
        Check.fine(x, "28 119 years", x.throughIn(0), 119);
    }

    private static void firstThrough() {
        RustFamily x = Check.with(LONG + "thing b thick 99;thing c thick 99;thing d thick 100;loves a b 1;loves a c 1;");
        Check.fine(x, "29 of two in the same year the first", x.firstThrough(), 0);
        x.dote(0, 0, 0);
        Check.fine(x, "29 the second, late", x.firstThrough(), 1);
        x.dote(0, 1, 0);
        x.dote(0, 2, 9);
        Check.fine(x, "29 the third", x.firstThrough(), 2);
        x.rule(5, 99);
        x.breathe(1);
        Check.fine(x, "29 what is through now", x.firstThrough(), 1);
        x.breathe(0);
        Check.fine(x, "29 the first of these", x.firstThrough(), 0);
        x = Check.with("shows 0;life 120;person a age 0 of;thing b thick 120;thing c thick 119;loves a b 1;loves a c 1;");
        Check.fine(x, "29 in 119 years", x.firstThrough(), 1);
    }

    private static void throughBy() {
        RustFamily x = Check.with(LONG + "breath 3;thing b thick 3;thing c thick 4;thing d thick 5;thing e thick 1;"
            + "loves a b 1;loves a c 1;loves a d 1;");
        int[] due = {0, 0, 0, 1, 3, 7};
        for (int i = 0; i < due.length; i++) {
            Check.fine(x, "30 in " + i, x.throughBy(i), due[i]);
        }
        Check.fine(x, "30 in 200", x.throughBy(200), 7);
        x.breathe(3);
        Check.fine(x, "30 now, too", x.throughBy(0), 8);
        Check.fine(x, "30 in 200, too", x.throughBy(200), 15);
    }

    private static int showsIn(String family) {
        return Check.with(family).showsIn(0);
    }

    private static void showsIn() {
        Check.due("31 in 1", showsIn("shows 40;person a age 39 of;"), 1);
        Check.due("31 as old: now", showsIn("shows 40;person a age 40 of;"), 0);
        Check.due("31 older: now", showsIn("shows 40;person a age 41 of;"), 0);
        Check.due("31 older than life: now", showsIn("shows 99;life 1;person a age 119 of;"), 0);
        Check.due("31 in 99, the most", showsIn("shows 99;life 100;person a age 0 of;"), 99);
        Check.due("31 he dies in that year", showsIn("shows 99;life 99;person a age 0 of;"), -1);
        Check.due("31 for one year", showsIn("shows 59;life 60;person a age 30 of;"), 29);
        Check.due("31 of 0 at 0", showsIn("shows 0;person a age 0 of;"), 0);
        Check.due("31 not of the line", showsIn("shows 0;person a age 50;"), -1);
    }

    private static int diesIn(String family) {
        return Check.with(family).diesIn(0);
    }

    private static void diesIn() {
        Check.due("32 of 1 at 0", diesIn("life 1;person a age 0;"), 1);
        Check.due("32 of 60 at 59", diesIn("life 60;person a age 59;"), 1);
        Check.due("32 of 60 at 58", diesIn("life 60;person a age 58;"), 2);
        Check.due("32 of 60 at 60", diesIn("life 60;person a age 60;"), 1);
        Check.due("32 of 1 at 119", diesIn("life 1;person a age 119;"), 1);
        Check.due("32 the longest", diesIn("life 120;person a age 0;"), 120);
        Check.due("32 of the line, too", diesIn("life 120;person a age 119 of;"), 1);
    }

    private static void worst() {
        RustFamily x = Check.with("person a age 50 of;person b age 50 of;person c age 50 of;thing d thick 99;thing e thick 99;"
            + "loves a d 2;loves b d 1;loves b e 2;loves c d 3;");
        Check.fine(x, "33 in 0: of several the first", x.worst(0), 0);
        Check.fine(x, "33 in 1: all things together", x.worst(1), 1);
        x.dote(0, 1, 1);
        Check.fine(x, "33 of three alike the first", x.worst(1), 0);
        x.dote(2, 1, 1);
        Check.fine(x, "33 the last", x.worst(1), 2);
        x = Check.with(LONG + "person b age 0 of;thing c thick 52;loves a c 1;loves b c 1;");
        Check.fine(x, "33 in 50", x.worst(50), 0);
        // b comes to show in the fiftieth year alone.
        x = Check.with("shows 50;life 120;person a age 0;person b age 0 of;thing c thick 99;loves b c 9;");
        Check.fine(x, "33 in 50: he does", x.worst(50), 1);
        Check.fine(x, "33 in 49: he does not yet", x.worst(49), 0);
        x = new RustFamily();
        x.born(0, false);
        Check.fine(x, "33 one, without things", x.worst(50), 0);
        x = Scenes.crowd();
        Check.fine(x, "33 six alike, eight things", x.worst(50), 0);
        for (int p = 0; p < 6; p++) {
            x.dote(p, 7, 1 + p);
        }
        Check.fine(x, "33 the sixth, by the eighth", x.worst(1), 5);
        // Who was there ahead is not there any more.
        Texts.family(x, "person a age 50 of;thing b thick 99;");
        Texts.family(x, "person a age 50 of;thing b thick 99;");
        Check.fine(x, "33 one alone", x.worst(50), 0);
        // What is through is bitten no more: without c it is through a year later, yet by as much.
        x = Check.with("person a age 50 of;person b age 50 of;thing c thick 5;loves a c 1;loves b c 5;");
        Check.fine(x, "33 by a 6, by b 1, in a year", x.worst(1), 1);
        Check.fine(x, "33 by a 5, by b 5, in five", x.worst(5), 0);
    }

    private static void lastYearDoesNotMatter() {
        RustFamily x = new RustFamily();
        for (int i = 0; i < 101; i++) {
            x.year(99);
        }
        x.born(39, true);
        x.born(50, true);
        x.forge(20);
        x.forge(99);
        x.dote(0, 0, 4);
        x.dote(1, 0, 1);
        Check.refused(x, "18 no year goes by", x.year(1), 7);
        Check.fine(x, "27 rust", x.rustIn(0, 2), 10);
        Check.fine(x, "28 through", x.throughIn(0), 4);
        Check.fine(x, "29 first", x.firstThrough(), 0);
        Check.fine(x, "30 through by", x.throughBy(4), 1);
        Check.fine(x, "31 shows", x.showsIn(0), 1);
        Check.fine(x, "32 dies", x.diesIn(1), 20);
        Check.fine(x, "33 worst", x.worst(2), 0);
        Check.fine(x, "34 jars", x.jars(0, 4), 1);
        Check.fine(x, "35 jars for both", x.jarsFor(3, 4), 1);
        Check.fine(x, "36 less", x.less(0, 0, 4), 1);
        Check.fine(x, "44 game", x.game(1, 0, 1), 5 + 3);
        Check.fine(x, "46 lasts", x.lasts(0, 1));
        Check.fraction(x, "46 lasts", 1, 1);
        Check.due("13 still 9,999", x.many(6), 9999);
    }

    private static void jars() {
        // Bites of 2, of 1 with a jar.
        RustFamily x = Check.with(LONG + "thing b thick 9;thing c thick 8;thing d thick 16;thing e thick 17;"
            + "loves a b 2;loves a c 2;loves a d 2;loves a e 2;");
        Check.fine(x, "34 in no years none", x.jars(0, 0), 0);
        Check.fine(x, "34 eight of eight", x.jars(0, 8), 8);
        Check.refused(x, "34 eight are not enough", x.jars(1, 8), 8);
        Check.fine(x, "34 in 7 seven are", x.jars(1, 7), 7);
        Check.fine(x, "34 one, to be less than 16", x.jars(2, 8), 1);
        Check.fine(x, "34 none, to be less than 17", x.jars(3, 8), 0);
        // A bite of 1 is none with a jar: it can always last.
        x = Check.with(LONG + "thing b thick 1;loves a b 1;");
        Check.fine(x, "34 one each year", x.jars(0, 8), 8);
        Check.fine(x, "34 a first year", x.jars(0, 1), 1);
        // Of 1 and 3 together the greater: it saves 2, not 1.
        x = Check.with("shows 40;person a age 50 of;person b age 38 of;thing c thick 3;loves a c 1;loves b c 2;");
        Check.fine(x, "34 in the second year, not in the first", x.jars(0, 2), 1);
        // He dies: in the last year there is no bite, and no jar saves any.
        x = Check.with("life 52;person a age 50 of;thing c thick 2;loves a c 2;");
        Check.fine(x, "34 in his last year alone", x.jars(0, 8), 1);
    }

    private static void jarsAndOil() {
        RustFamily x = Check.with("person a age 50 of;thing b thick 7;thing c thick 6;thing d thick 12 coat 3;"
            + "loves a b 4;loves a c 4;loves a d 4;");
        x.oil(0);
        x.oil(1);
        // 2, 2, 2 by the OIL that it has.
        Check.fine(x, "34 none besides", x.jars(0, 3), 0);
        Check.refused(x, "34 a jar does not help in these years", x.jars(1, 3), 8);
        Check.fine(x, "34 two years of the three", x.jars(1, 2), 0);
        Check.refused(x, "34 a fourth of 2 at least", x.jars(0, 4), 8);
        // 4, 4, 4, 4: 14 is what it can bear with its COAT.
        Check.fine(x, "34 the coat bears 3", x.jars(2, 3), 0);
        Check.fine(x, "34 one in four", x.jars(2, 4), 1);
        x.coat(2, 1);
        Check.fine(x, "34 one more", x.jars(2, 4), 1);
        x.coat(2, 1);
        Check.fine(x, "34 enough", x.jars(2, 4), 0);
        Check.due("15 jars are no oil", x.thing(2, 3), 0);
    }

    private static void jarsFor() {
        RustFamily x = Scenes.crowd();
        for (int t = 0; t < 8; t++) {
            x.dote(0, t, 4);
        }
        Check.fine(x, "35 all eight, none", x.jarsFor(255, 8), 0);
        x = Check.with(LONG + "thing b thick 9;thing c thick 9;thing d thick 1;loves a b 2;loves a c 2;loves a d 2;");
        Check.fine(x, "35 of none", x.jarsFor(0, 8), 0);
        Check.fine(x, "35 of the first", x.jarsFor(1, 8), 8);
        Check.fine(x, "35 of both: in one year for each", x.jarsFor(3, 8), 16);
        Check.refused(x, "35 the third can't", x.jarsFor(7, 1), 8);
        Check.refused(x, "35 it alone can't", x.jarsFor(4, 1), 8);
        Check.fine(x, "35 in no years it can", x.jarsFor(7, 0), 0);
    }

    private static void less() {
        RustFamily x = Check.with("person a age 50 of;thing b thick 1;loves a b 9;");
        Check.fine(x, "36 in no years", x.less(0, 0, 0), 0);
        Check.fine(x, "36 all nine", x.less(0, 0, 1), 9);
        x.rule(4, 1);
        Check.fine(x, "36 3 by 1 does not bite", x.less(0, 0, 1), 6);
        x.rule(4, 0);
        Check.fine(x, "36 without damp", x.less(0, 0, 50), 0);
        x = Check.with(LONG + "thing b thick 50;thing c thick 51;thing d thick 99;loves a b 1;loves a c 1;loves a d 2;");
        Check.fine(x, "36 in 49 years none", x.less(0, 0, 49), 0);
        Check.fine(x, "36 in 50 years one", x.less(0, 0, 50), 1);
        Check.fine(x, "36 in 50 years, thicker by 1", x.less(0, 1, 50), 0);
        Check.fine(x, "36 one of two", x.less(0, 2, 50), 1);
        Check.due("16 it is not taken", x.love(0, 2), 2);
        // What he loves in whom it does not show is no help.
        x = Check.with("person a age 50 of;person b age 50;thing c thick 3;loves a c 3;loves b c 9;");
        Check.refused(x, "36 of b it is no help", x.less(1, 0, 1), 8);
        Check.fine(x, "36 of a it is", x.less(0, 0, 1), 1);
        x = Check.with("person a age 38 of;thing c thick 3;loves a c 3;");
        Check.fine(x, "36 of one in whom it does not show yet", x.less(0, 0, 1), 0);
        Check.fine(x, "36 when it does", x.less(0, 0, 2), 1);
    }

    private static RustFamily lovers(int many) {
        RustFamily x = new RustFamily();
        for (int i = 0; i < many; i++) {
            x.born(50, true);
        }
        return x;
    }

    private static void saw(RustFamily x, long... twos) {
        x.tray(0, 3, twos.length);
        for (int i = 0; i < twos.length; i++) {
            x.write(0, i, twos[i]);
        }
    }

    private static void seenTwos() {
        RustFamily x = lovers(1);
        x.tray(0, 0, 0);
        Check.fine(x, "37 no twos of none", x.seen(0, 0), 4);
        x.tray(0, 0, 2);
        Check.fine(x, "37 one of one", x.seen(0, 1), 4);
        x.tray(0, 0, 3);
        Check.refused(x, "37 two of one and a half", x.seen(0, 2), 4);
        x.tray(0, 0, 40);
        Check.fine(x, "37 twenty of twenty", x.seen(0, 20), 4);
        x.tray(0, 0, 39);
        Check.refused(x, "37 twenty of nineteen and a half", x.seen(0, 20), 4);
        x.tray(0, 0, 60);
        x.write(0, 38, 4);
        x.write(0, 39, 3);
        Check.fine(x, "37 the twentieth counts", x.seen(0, 20), 1);
        Check.fine(x, "37 not among nineteen", x.seen(0, 19), 4);
        x.write(0, 40, 10);
        Check.fine(x, "37 the next is not asked for", x.seen(0, 20), 1);
        Check.refused(x, "37 nor 21 of them", x.seen(0, 21), 5);
        x.write(0, 39, -1);
        Check.refused(x, "37 a bite below 0 in the twentieth", x.seen(0, 20), 5);
        Check.fine(x, "37 not in nineteen", x.seen(0, 19), 4);
        x.write(0, 39, 0);
        x.write(0, 38, 10);
        Check.refused(x, "37 a damp of 10 in the twentieth", x.seen(0, 20), 5);
        x.write(0, 38, 9);
        Check.fine(x, "37 a damp of 9", x.seen(0, 20), 1);
        x.write(0, 38, 0);
        Check.fine(x, "37 a damp of 0", x.seen(0, 20), 4);
        seenEachOfTwo();
    }

    /** Each number of each two by itself: what may be a BITE may be no DAMP. */
    private static void seenEachOfTwo() {
        for (int at = 0; at < 4; at++) {
            RustFamily x = lovers(4);
            saw(x, 9, 27, 4, 12);
            Check.fine(x, "37 12 and 27", x.seen(0, 2), 1);
            x.write(0, at, -1);
            Check.refused(x, "37 -1 at " + at, x.seen(0, 2), 5);
            Check.refused(x, "38 -1 at " + at, x.sure(0, 0, 2), 5);
            Check.refused(x, "39 -1 at " + at, x.ask(0, 2), 5);
            Check.due("37 -1 behind the first, at " + at, x.seen(0, 1), at < 2 ? -1 : 1);
            x.write(0, at, 10);
            Check.due("37 10 at " + at, x.seen(0, 2), at % 2 == 0 ? -1 : 0);
            Check.due("37 10 at " + at + ": status", x.status(), at % 2 == 0 ? 5 : 0);
            x.write(0, at, 9);
            Check.due("37 9 at " + at, x.seen(0, 2), at == 0 ? 1 : 0);
            Check.due("37 9 at " + at + ": status", x.status(), 0);
        }
    }

    private static void seenWays() {
        int all = 1;
        for (int many = 0; many <= 6; many++) {
            RustFamily x = lovers(many);
            x.tray(0, 0, 0);
            Check.fine(x, "37 all ways of " + many, x.seen(0, 0), all);
            saw(x, 4, 0);
            Check.fine(x, "37 nobody of " + many, x.seen(0, 1), 1);
            saw(x, 4, 3 * many);
            Check.fine(x, "37 by 3 each of " + many, x.seen(0, 1), 1);
            saw(x, 4, 3 * many + 1);
            Check.fine(x, "37 by more than 3 each of " + many, x.seen(0, 1), 0);
            saw(x, 9, 27 * many / 4);
            Check.fine(x, "37 the most by 9 of " + many, x.seen(0, 1), 1);
            saw(x, 9, 27 * many / 4 + 1);
            Check.fine(x, "37 above the most by 9 of " + many, x.seen(0, 1), 0);
            saw(x, 0, 0);
            Check.fine(x, "37 by 0 of " + many, x.seen(0, 1), all);
            saw(x, 0, 1);
            Check.fine(x, "37 by 0 a bite of " + many, x.seen(0, 1), 0);
            all *= 4;
        }
        RustFamily x = lovers(2);
        // By 1: 0 to 3 points by a bite of 0, 4 to 6 by one of 1: ways of sums 1 2 3 4 3 2 1.
        saw(x, 1, 0);
        Check.fine(x, "37 rounded down to 0", x.seen(0, 1), 10);
        saw(x, 1, 1);
        Check.fine(x, "37 rounded down to 1", x.seen(0, 1), 6);
        saw(x, 4, Long.MAX_VALUE);
        Check.fine(x, "37 the most number: no way", x.seen(0, 1), 0);
        saw(x, 4, (1L << 32) + 3);
        Check.fine(x, "37 not cut to 32 bits", x.seen(0, 1), 0);
    }

    /** In whom it SHOWS now, not in a YEAR. */
    private static void seenNow() {
        RustFamily x = Check.with("person a age 39 of;person b age 40 of;person c age 69 of;person d age 50;");
        saw(x, 4, 3);
        RustFamily y = Check.with("person a age 39 of;person b age 40 of;");
        saw(y, 4, 3);
        Check.fine(y, "37 one now, two in a year", y.seen(0, 0), 4);
        Check.fine(y, "38 one now, two in a year", y.sure(1, 0, 1), 3);
        Check.refused(y, "39 one now, two in a year", y.ask(0, 1), 8);
        y = Check.with("person a age 69 of;person b age 69 of;");
        saw(y, 4, 5);
        Check.fine(y, "37 two now, none in a year", y.seen(0, 0), 16);
        Check.refused(y, "38 two now, none in a year", y.sure(1, 0, 1), 8);
        Check.fine(y, "39 two now, none in a year", y.ask(0, 1), 1);
        Check.fine(x, "37 of two", x.seen(0, 0), 16);
        Check.fine(x, "37 of two, 3 points", x.seen(0, 1), 4);
        Check.refused(x, "38 not in a yet", x.sure(0, 0, 1), 8);
        saw(x, 4, 6);
        Check.fine(x, "38 in b", x.sure(1, 0, 1), 3);
        Check.fine(x, "38 in c, yet", x.sure(2, 0, 1), 3);
        saw(x, 4, 1);
        Check.fine(x, "39 of two ways", x.ask(0, 1), 1);
        saw(x, 4, 7);
        Check.fine(x, "37 not three", x.seen(0, 1), 0);
        x.year(1);
        saw(x, 4, 6);
        Check.fine(x, "37 two others now", x.seen(0, 1), 1);
        Check.fine(x, "38 in a now", x.sure(0, 0, 1), 3);
        Check.refused(x, "38 c is dead", x.sure(2, 0, 1), 8);
        // Love that is told does not matter: only what was seen does.
        x.forge(9);
        x.dote(0, 0, 9);
        Check.fine(x, "37 whatever they love", x.seen(0, 1), 1);
    }

    private static void sure() {
        for (int many = 1; many <= 6; many++) {
            RustFamily x = lovers(many);
            saw(x, 4, 0);
            Check.fine(x, "38 by 0, the last of " + many, x.sure(many - 1, 0, 1), 0);
            saw(x, 4, 3 * many);
            Check.fine(x, "38 by 3, the last of " + many, x.sure(many - 1, 0, 1), 3);
            saw(x, 4, 1);
            Check.due("38 by 1, one of " + many, x.sure(0, 0, 1), many == 1 ? 1 : -1);
            saw(x, 4, 3 * many - 1);
            Check.due("38 all but one, one of " + many, x.sure(0, 0, 1), many == 1 ? 2 : -1);
            saw(x, 4, 3 * many + 1);
            Check.refused(x, "38 no way, one of " + many, x.sure(0, 0, 1), 8);
            Check.refused(x, "38 not told by anything, one of " + many, x.sure(0, 0, 0), 8);
        }
        RustFamily x = lovers(1);
        saw(x, 2, 1, 6, 4);
        Check.fine(x, "38 3 by two twos", x.sure(0, 0, 2), 3);
    }

    private static void ask() {
        RustFamily x = lovers(1);
        saw(x, 4, 2);
        Check.fine(x, "39 all ways", x.ask(0, 0), 4);
        Check.refused(x, "39 one way", x.ask(0, 1), 8);
        saw(x, 4, 4);
        Check.refused(x, "39 no way", x.ask(0, 1), 8);
        saw(x, 2, 1);
        Check.fine(x, "39 2 or 3: by 3 they are unlike first", x.ask(0, 1), 3);
        saw(x, 2, 0);
        Check.fine(x, "39 0 or 1: by 4 they are unlike first", x.ask(0, 1), 4);
        saw(x, 3, 0);
        Check.fine(x, "39 0 or 1, too", x.ask(0, 1), 4);
        x = lovers(2);
        saw(x, 4, 1);
        Check.fine(x, "39 two ways of one bite: the least damp", x.ask(0, 1), 1);
        // 4, 5 or 6 points (by 1 that is 1): by 2 that is 2, 2, 3, by 3 it is 3, 3, 4, by 4 all unlike.
        saw(x, 1, 1);
        Check.fine(x, "39 4, 5 or 6", x.ask(0, 1), 4);
        x = lovers(6);
        // 16, 17 or 18 points: by 9 they are 36, 38, 40; by 2 8, 8, 9; by 3 12, 12, 13; by 4 unlike.
        saw(x, 1, 4);
        Check.fine(x, "39 the most points", x.ask(0, 1), 4);
        saw(x, 4, 17);
        Check.fine(x, "39 six ways of one bite", x.ask(0, 1), 1);
        saw(x, 4, 18);
        Check.refused(x, "39 one way of six", x.ask(0, 1), 8);
        x = lovers(0);
        x.tray(0, 0, 0);
        Check.refused(x, "39 one way of nobody", x.ask(0, 0), 8);
    }

    private static void keeping() {
        RustFamily x = Scenes.crowd();
        Check.fine(x, "40 six of eight", x.keeping(63), 0);
        for (int p = 0; p < 6; p++) {
            Check.fine(x, "41 the first by numbers, person " + p, x.keeps(63, p), p);
            Check.fine(x, "41 alone, person " + p, x.keeps(1 << p, p), 0);
        }
        for (int p = 0; p < 6; p++) {
            for (int t = 0; t < 8; t++) {
                x.dote(p, t, 9);
            }
        }
        Check.fine(x, "40 the most", x.keeping(63), 54);
        Check.fine(x, "40 of nobody", x.keeping(0), 0);
        Check.fine(x, "41 the last keeps the sixth", x.keeps(63, 5), 5);
        x.dote(5, 7, 8);
        Check.fine(x, "40 the eighth", x.keeping(63), 53);
        Check.fine(x, "41 the eighth", x.keeps(63, 5), 7);
        Check.fine(x, "41 the others as ahead", x.keeps(63, 4), 4);
        x = Check.with("person a age 0;person b age 0;thing c thick 1;thing d thick 1;loves a c 1;loves b c 1;");
        Check.fine(x, "40 two of two", x.keeping(3), 1);
        Check.fine(x, "41 of two ways the first", x.keeps(3, 0), 0);
        Check.fine(x, "41 of two ways the first, b", x.keeps(3, 1), 1);
        x.dote(0, 0, 2);
        Check.fine(x, "40 less", x.keeping(3), 1);
        Check.fine(x, "41 the second way, now", x.keeps(3, 0), 1);
        Check.fine(x, "41 b alone", x.keeps(2, 1), 1);
        // As many as there are, behind a set of more.
        x = Scenes.crowd();
        for (int t = 0; t < 8; t++) {
            x.dote(2, t, 9);
        }
        Check.fine(x, "40 six", x.keeping(63), 9);
        Texts.family(x, "person a age 0;person b age 0;thing c thick 1;thing d thick 1;");
        Check.fine(x, "40 two of two behind them", x.keeping(3), 0);
        Check.fine(x, "41 two of two behind them", x.keeps(3, 1), 1);
    }

    private static void keepingThrough() {
        RustFamily x = Check.with("breath 9;life 60;person a age 59;person b age 0;thing c thick 9;thing d thick 10;"
            + "thing e thick 9;loves a d 5;loves a e 1;loves b d 2;loves b e 2;");
        Check.fine(x, "40 three things", x.keeping(3), 1);
        x.breathe(0);
        Check.fine(x, "40 two that are not through", x.keeping(3), 3);
        Check.fine(x, "41 a", x.keeps(3, 0), 2);
        Check.fine(x, "41 b", x.keeps(3, 1), 1);
        x.breathe(1);
        Check.due("15 9 of 10", x.thing(1, 6), 0);
        Check.fine(x, "40 rust does not matter", x.keeping(3), 3);
        x.breathe(2);
        Check.refused(x, "40 one that is not through", x.keeping(3), 8);
        Check.refused(x, "41 one that is not through", x.keeps(3, 1), 8);
        Check.fine(x, "40 for one of them", x.keeping(1), 5);
        Check.fine(x, "41 for one of them", x.keeps(1, 0), 1);
        x.year(1);
        Check.fine(x, "40 the dead, too", x.keeping(1), 5);
        x.breathe(1);
        Check.refused(x, "40 none", x.keeping(1), 8);
        Check.fine(x, "40 none for nobody", x.keeping(0), 0);
    }

    private static void firstStable() {
        RustFamily x = Scenes.crowd();
        for (int p = 0; p < 6; p++) {
            for (int t = 0; t < 8; t++) {
                x.dote(p, t, 9);
            }
        }
        // All alike: each asks on until he comes to one that nobody keeps.
        for (int p = 0; p < 6; p++) {
            Check.fine(x, "42 person " + p, x.stable(63, p), p);
        }
        Check.fine(x, "42 the last alone", x.stable(32, 5), 0);
        for (int t = 0; t < 8; t++) {
            x.dote(5, t, 1);
        }
        Check.fine(x, "42 who loves it least keeps the first", x.stable(63, 5), 0);
        Check.fine(x, "42 the first asks anew", x.stable(63, 0), 5);
        x = Check.with("person a age 0;person b age 0;thing c thick 1;thing d thick 1;"
            + "loves a c 3;loves b c 2;loves b d 2;");
        Check.fine(x, "42 of several the first", x.stable(2, 1), 0);
        Check.refused(x, "42 a loves nothing else", x.stable(3, 0), 8);
        Check.fine(x, "42 b keeps it", x.stable(3, 1), 0);
        x.dote(1, 0, 3);
        Check.fine(x, "42 of as much it would not change", x.stable(3, 0), 0);
        Check.fine(x, "42 b is left d", x.stable(3, 1), 1);
        x.dote(0, 1, 1);
        x.rule(5, 1);
        x.breathe(0);
        Check.fine(x, "42 c is through", x.stable(3, 0), 1);
        Check.refused(x, "42 c is through, and d not b's", x.stable(3, 1), 8);
    }

    private static void stables() {
        RustFamily x = Scenes.crowd();
        Check.fine(x, "43 nobody", x.stables(0), 1);
        Check.fine(x, "43 one: nothing or any", x.stables(32), 9);
        Check.fine(x, "43 four of eight: 1 + 32 + 336 + 1344 + 1680", x.stables(60), 3393);
        Check.fine(x, "43 the first four", x.stables(15), 3393);
        Check.fine(x, "42 changes nothing", x.stables(60), 3393);
        x = new RustFamily();
        x.born(0, true);
        Check.fine(x, "43 one without things", x.stables(1), 1);
        x.forge(1);
        Check.fine(x, "43 one, nothing or it", x.stables(1), 2);
        x.dote(0, 0, 1);
        Check.fine(x, "43 one who loves it", x.stables(1), 1);
        x.rule(5, 1);
        x.breathe(0);
        Check.fine(x, "43 it is through", x.stables(1), 1);
    }

    private static void stableTies() {
        // Of as many as both do, nobody would change.
        RustFamily x = Check.with("person a age 0;person b age 0;thing c thick 1;loves a c 4;loves b c 4;");
        Check.fine(x, "43 either", x.stables(3), 2);
        x.dote(1, 0, 5);
        Check.fine(x, "43 who loves it less", x.stables(3), 1);
        x.dote(1, 0, 3);
        Check.fine(x, "43 the other one", x.stables(3), 1);
        // c and d by as much: he would not change for the other.
        x = Check.with("person a age 0;thing c thick 1;thing d thick 1;loves a c 4;loves a d 4;");
        Check.fine(x, "43 one of two", x.stables(1), 2);
        x.dote(0, 1, 3);
        Check.fine(x, "43 that which he loves more", x.stables(1), 1);
        // By 0 it is no more than nothing.
        x = Check.with("person a age 0;thing c thick 1;thing d thick 1;loves a c 1;");
        Check.fine(x, "43 neither nothing nor d", x.stables(1), 1);
    }

    private static void game() {
        RustFamily x = Check.with("breath 3;thing b thick 99;thing c thick 99;");
        for (int turns = 0; turns <= 4; turns++) {
            // Nothing is loved: each breathes in his turn.
            Check.fine(x, "44 turns " + turns, x.game(0, 1, turns), turns % 2 == 0 ? 0 : 3);
            Check.fine(x, "44 the other first, turns " + turns, x.game(1, 0, turns), turns % 2 == 0 ? 0 : 3);
        }
        x.breathe(1);
        Check.fine(x, "44 no turns: as it is", x.game(0, 1, 0), 3);
        Check.fine(x, "44 no turns: -3 as it is", x.game(1, 0, 0), -3);
        Check.due("44 nothing has changed", x.many(11), 3);
        Check.due("44 nothing has OIL", x.many(10), 0);
        Check.due("44 no year went by", x.many(6), 0);
        // A year goes by behind each turn: it shows in a in the second.
        x = Check.with("breath 0;shows 40;person a age 38 of;thing b thick 99;thing c thick 99;loves a c 5;");
        Check.fine(x, "44 not yet", x.game(0, 1, 1), 0);
        Check.fine(x, "44 the second oils his own", x.game(0, 1, 2), 2);
        Check.fine(x, "44 the second oils his own, the first breathes", x.game(0, 1, 3), 4);
        Check.fine(x, "44 four", x.game(0, 1, 4), 6);
        Check.due("15 no oil is left", x.thing(1, 3), 0);
        Check.fine(x, "44 the other way round: not yet", x.game(1, 0, 1), 0);
        Check.fine(x, "44 the other way round: the first oils it ahead", x.game(1, 0, 2), -2);
        x = Check.with("breath 0;shows 40;life 41;person a age 39 of;thing b thick 99;thing c thick 99;loves a b 5;loves a c 9;");
        Check.fine(x, "44 now, not behind it: oiled by the first", x.game(0, 1, 1), 9 - 2);
        Check.fine(x, "44 now, not behind it: oiled by the other", x.game(1, 0, 1), 5 - 4);
        Check.fine(x, "44 he is dead then", x.game(0, 1, 4), 9 - 2);
        // OIL for three years, from his turn on.
        x = Check.with("breath 0;person a age 50 of;thing b thick 99;thing c thick 99;loves a b 4;");
        Check.fine(x, "44 2 and 2 and 2, then 2 by new oil", x.game(0, 1, 4), -8);
        Check.fine(x, "44 the second's in his turn: 4 and 2 and 2 and 2", x.game(1, 0, 4), 10);
    }

    private static void gameThrough() {
        RustFamily x = Check.with("breath 9;thing b thick 9;thing c thick 99;thing d thick 10;");
        x.breathe(0);
        Check.due("15 through", x.thing(0, 6), 1);
        Check.fine(x, "44 what is through is not breathed on", x.game(1, 0, 1), 9);
        Check.fine(x, "44 but breathes", x.game(0, 1, 1), 0);
        x.breathe(2);
        Check.fine(x, "44 9 of 10 is breathed on", x.game(1, 2, 1), 18);
        Check.fine(x, "44 and no more in the third turn", x.game(1, 2, 3), 9);
        x = Check.with("breath 4;person a age 50 of;thing b thick 5 coat 99;thing c thick 9 coat 99;loves a c 9;");
        Check.fine(x, "44 breath whatever coat", x.game(0, 1, 1), 4);
        Check.fine(x, "44 each once", x.game(0, 1, 2), 0);
        Check.fine(x, "44 each once, the first twice", x.game(0, 1, 3), 4);
        Check.fine(x, "44 each twice", x.game(0, 1, 4), 0);
    }

    private static void gameMost() {
        RustFamily x = Check.with("breath 99;thing b thick 999;thing c thick 999;");
        for (int i = 0; i < 10; i++) {
            x.breathe(1);
        }
        Check.fine(x, "44 999 at most", x.game(0, 1, 1), 999);
        Check.fine(x, "44 the second breathes", x.game(1, 0, 1), 99 - 990);
        x = Scenes.crowd();
        x.rule(4, 9);
        for (int p = 0; p < 6; p++) {
            x.dote(p, 1, 9);
        }
        x.year(8);
        // 968 and 121, 999 at most; or 3 more by breath, as much.
        Check.fine(x, "44 999 at most by years", x.game(0, 1, 1), 999);
        Check.fine(x, "45 breathing is as good", x.moveOf(0, 1, 1), 0);
    }

    private static void moveOf() {
        RustFamily x = Check.with("breath 2;person a age 50 of;thing b thick 99;thing c thick 99;loves a b 4;");
        for (int turns = 1; turns <= 4; turns++) {
            // OIL saves 2 for each YEAR (3 at most), breath gives 2: as good in one turn alone.
            Check.fine(x, "45 turns " + turns, x.moveOf(0, 1, turns), turns == 1 ? 0 : 1);
        }
        x.rule(5, 3);
        Check.fine(x, "45 breath is better", x.moveOf(0, 1, 1), 0);
        x.rule(5, 1);
        Check.fine(x, "45 oil is better", x.moveOf(0, 1, 1), 1);
        x.rule(5, 0);
        x.dote(0, 0, 0);
        Check.fine(x, "45 all are as good: breathing", x.moveOf(0, 1, 4), 0);
        x.rule(5, 99);
        x.breathe(1);
        Check.fine(x, "45 it is through: oiling ahead of nothing", x.moveOf(0, 1, 4), 1);
        Check.fine(x, "45 his own is through: breathing", x.moveOf(1, 0, 1), 0);
        x.breathe(0);
        for (int turns = 1; turns <= 4; turns++) {
            Check.fine(x, "45 both are: nothing, turns " + turns, x.moveOf(0, 1, turns), 2);
        }
        Check.fine(x, "44 both are", x.game(0, 1, 4), 0);
    }

    private static void odds(RustFamily x, String what, int thing, int n, long top, long bottom) {
        Check.fine(x, what, x.lasts(thing, n));
        Check.fraction(x, what, top, bottom);
    }

    private static void lasts() {
        RustFamily x = Check.with("breath 5;person a age 40 of;thing b thick 1;thing c thick 10;thing d thick 9;thing e thick 5;"
            + "loves a b 4;loves a c 4;loves a d 4;");
        odds(x, "46 now surely", 0, 0, 1, 1);
        odds(x, "46 by a damp of 0 alone", 0, 1, 1, 10);
        odds(x, "46 six times a damp of 0", 0, 6, 1, 1000000);
        odds(x, "46 by all damps", 1, 1, 1, 1);
        odds(x, "46 by all but 9", 2, 1, 9, 10);
        // 55 of 100 twos are 9 at most together, 45 are 8 at most.
        odds(x, "46 two years", 1, 2, 11, 20);
        odds(x, "46 two years, thinner by 1", 2, 2, 9, 20);
        odds(x, "46 not loved", 3, 6, 1, 1);
        x.breathe(3);
        odds(x, "46 through", 3, 6, 0, 1);
        odds(x, "46 through now", 3, 0, 0, 1);
        x.breathe(1);
        // 4 at most.
        odds(x, "46 by its rust", 1, 1, 1, 2);
        x.coat(1, 2);
        odds(x, "46 by its coat", 1, 1, 7, 10);
        x.coat(1, 3);
        odds(x, "46 by more coat", 1, 1, 1, 1);
        x.rule(4, 0);
        odds(x, "46 whatever the damp is now", 0, 1, 1, 10);
    }

    private static void lastsOfAges() {
        RustFamily x = Check.with("shows 40;life 44;person a age 38 of;thing b thick 1;loves a b 4;");
        odds(x, "46 not shown yet", 0, 1, 1, 1);
        odds(x, "46 shown in the second", 0, 2, 1, 10);
        odds(x, "46 and third", 0, 3, 1, 100);
        odds(x, "46 and fifth", 0, 5, 1, 10000);
        odds(x, "46 dead in the sixth", 0, 6, 1, 10000);
        x = Check.with("person a age 50 of;thing b thick 1;loves a b 4;");
        x.oil(0);
        // With OIL a damp of 0 or 1, three years; then of 0.
        odds(x, "46 oil", 0, 1, 1, 5);
        odds(x, "46 oil of three years", 0, 3, 1, 125);
        odds(x, "46 no oil in the fourth", 0, 4, 1, 1250);
    }

    private static void thickFor() {
        RustFamily x = Check.with("person a age 50 of;thing b thick 1;thing c thick 1;loves a b 4;");
        Check.fine(x, "47 0 tenths", x.thickFor(0, 1, 0), 1);
        for (int tenths = 1; tenths <= 10; tenths++) {
            Check.fine(x, "47 tenths " + tenths, x.thickFor(0, 1, tenths), tenths);
            Check.fine(x, "47 in no years, tenths " + tenths, x.thickFor(0, 0, tenths), 1);
            Check.fine(x, "47 not loved, tenths " + tenths, x.thickFor(1, 6, tenths), 1);
        }
        Check.fine(x, "47 in six years surely", x.thickFor(0, 6, 10), 55);
        // 55 of 100 twos are 9 at most, 45 are 8 at most.
        Check.fine(x, "47 half in two years", x.thickFor(0, 2, 5), 10);
        x.coat(0, 3);
        Check.fine(x, "47 the coat", x.thickFor(0, 1, 10), 7);
        x.coat(0, 996);
        Check.fine(x, "47 the coat, thick 1", x.thickFor(0, 6, 10), 1);
        x = Check.with("breath 99;thing b thick 999;thing c thick 1;");
        for (int i = 0; i < 10; i++) {
            x.breathe(0);
        }
        x.rule(5, 8);
        x.breathe(0);
        Check.fine(x, "47 999", x.thickFor(0, 6, 10), 999);
        Check.fine(x, "47 999, one tenth", x.thickFor(0, 0, 1), 999);
        x.rule(5, 1);
        x.breathe(0);
        Check.refused(x, "47 none", x.thickFor(0, 0, 1), 8);
        Check.fine(x, "47 0 tenths always", x.thickFor(0, 6, 0), 1);
        x = Scenes.crowd();
        for (int p = 0; p < 6; p++) {
            x.dote(p, 0, 9);
        }
        Check.fine(x, "47 the most that can be bitten", x.thickFor(0, 6, 10), 727);
    }

    private static void blame() {
        RustFamily x = Scenes.crowd();
        x.dote(0, 7, 9);
        Check.fine(x, "48 all of it", x.blame(0));
        Check.fraction(x, "48 all of it", 1, 1);
        Check.fine(x, "48 nothing of it", x.blame(5));
        Check.fraction(x, "48 nothing of it", 0, 1);
        for (int p = 0; p < 6; p++) {
            for (int t = 0; t < 8; t++) {
                x.dote(p, t, 9);
            }
        }
        Check.fine(x, "48 a sixth", x.blame(5));
        Check.fraction(x, "48 a sixth", 1, 6);
        x = Check.with("person a age 39 of;person b age 40 of;person c age 69 of;thing d thick 9;"
            + "loves a d 9;loves b d 2;loves c d 4;");
        Check.fine(x, "48 not shown yet", x.blame(0));
        Check.fraction(x, "48 not shown yet", 0, 1);
        Check.fine(x, "48 now, not in a year", x.blame(2));
        Check.fraction(x, "48 now, not in a year", 2, 3);
        x.year(1);
        Check.fine(x, "48 dead", x.blame(2));
        Check.fraction(x, "48 dead", 0, 1);
        Check.fine(x, "48 shown now", x.blame(0));
        Check.fraction(x, "48 shown now", 9, 11);
    }
}
