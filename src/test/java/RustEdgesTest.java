/** The edges of TRAYS (==== 1), of ==== 2, and of promises 1 to 26 as far as they are taken. */
public final class RustEdgesTest {
    private RustEdgesTest() {
    }

    public static void main(String[] args) {
        fresh();
        trays();
        cut();
        pour();
        shows();
        showsInAll();
        loved();
        bites();
        through();
        yearOlder();
        yearOfLife();
        yearCoats();
        yearMostRust();
        yearWentThrough();
        yearOil();
        lastYear();
        dote();
        oil();
        coat();
        mend();
        breathe();
        forge();
        born();
        rules();
        copyRust();
        sets();
        Check.end("RustEdgesTest");
    }

    private static void fresh() {
        RustFamily x = new RustFamily();
        Check.due("1 STATUS 0", x.status(), 0);
        Check.due("3 0 by 1", x.top(), 0);
        Check.due("4 0 by 1", x.bottom(), 1);
        Check.due("1 an empty tape", x.feed(0, 0, 0, 0, 0), 20);
        Check.fine(x, "52 no marks: the first", x.mark(), 1);
        Check.fine(x, "18 nobody: a year", x.year(1), 0);
        Check.fine(x, "30 nothing is through", x.throughBy(200), 0);
        Check.fine(x, "35 no things: no jars", x.jarsFor(0, 8), 0);
        Check.fine(x, "40 nobody keeps nothing", x.keeping(0), 0);
        Check.fine(x, "43 in one way", x.stables(0), 1);
        x = new RustFamily();
        x.tray(0, 0, 0);
        Check.fine(x, "17 no things into a tray without numbers", x.copyRust(0), 0);
        Check.fine(x, "37 nobody: one way", x.seen(0, 0), 1);
    }

    private static void trays() {
        for (int tray = 0; tray < 4; tray++) {
            for (int sort = 0; sort < 4; sort++) {
                RustFamily x = new RustFamily();
                Check.fine(x, "5 60 numbers", x.tray(tray, sort, 60));
                Check.fine(x, "5 the first is 0", x.read(tray, 0), 0);
                Check.fine(x, "5 the last is 0", x.read(tray, 59), 0);
                Check.fine(x, "6 the last place", x.write(tray, 59, 5));
                Check.fine(x, "7 the last place", x.read(tray, 59), 5);
                Check.fine(x, "7 the one ahead of it", x.read(tray, 58), 0);
                Check.fine(x, "5 one number", x.tray(tray, sort, 1));
                Check.refused(x, "5 no second one", x.read(tray, 1), 4);
                Check.fine(x, "5 no number", x.tray(tray, sort, 0));
                Check.refused(x, "5 not a first one", x.read(tray, 0), 4);
                Check.fine(x, "5 60 again", x.tray(tray, sort, 60));
                Check.fine(x, "5 all 0 again", x.read(tray, 59), 0);
                Check.refused(x, "5 the others are missing", x.read(3 - tray, 0), 3);
            }
        }
    }

    private static void cutTo(int sort, long told, long kept) {
        RustFamily x = new RustFamily();
        x.tray(0, sort, 3);
        Check.fine(x, "6 sort " + sort + ", " + told, x.write(0, 1, told));
        Check.fine(x, "7 sort " + sort + ", " + told, x.read(0, 1), kept);
        Check.fine(x, "6 nothing beside it", x.read(0, 0) | x.read(0, 2), 0);
    }

    private static void cut() {
        for (int sort = 0; sort < 3; sort++) {
            long half = 1L << (8 << sort) - 1;
            cutTo(sort, half - 1, half - 1);
            cutTo(sort, half, -half);
            cutTo(sort, -half, -half);
            cutTo(sort, -half - 1, half - 1);
            cutTo(sort, 2 * half - 1, -1);
            cutTo(sort, 2 * half, 0);
            cutTo(sort, 2 * half + 1, 1);
            cutTo(sort, -1, -1);
            cutTo(sort, Long.MAX_VALUE, -1);
            cutTo(sort, Long.MIN_VALUE, 0);
        }
        cutTo(3, Long.MAX_VALUE, Long.MAX_VALUE);
        cutTo(3, Long.MIN_VALUE, Long.MIN_VALUE);
        cutTo(3, -1, -1);
    }

    private static RustFamily counted(int many) {
        RustFamily x = new RustFamily();
        x.tray(0, 2, many);
        x.tray(1, 2, many);
        for (int i = 0; i < many; i++) {
            x.write(0, i, i + 1);
        }
        return x;
    }

    private static long row(RustFamily x, int tray, int many) {
        long row = 0;
        for (int i = 0; i < many; i++) {
            row = 10 * row + x.read(tray, i);
        }
        return row;
    }

    private static void pour() {
        RustFamily x = counted(5);
        Check.fine(x, "8 all", x.pour(0, 0, 1, 0, 5));
        Check.due("8 all came", row(x, 1, 5), 12345);
        x = counted(5);
        Check.fine(x, "8 the last to the first", x.pour(0, 4, 1, 0, 1));
        Check.due("8 it alone", row(x, 1, 5), 50000);
        x = counted(5);
        Check.fine(x, "8 the first to the last", x.pour(0, 0, 1, 4, 1));
        Check.due("8 it alone, too", row(x, 1, 5), 1);
        x = counted(5);
        Check.fine(x, "8 none", x.pour(0, 0, 1, 0, 0));
        Check.due("8 none came", row(x, 1, 5), 0);
        x = counted(5);
        Check.fine(x, "8 all to themselves", x.pour(0, 0, 0, 0, 5));
        Check.due("8 as they were", row(x, 0, 5), 12345);
        Check.fine(x, "8 up by one, as they were", x.pour(0, 0, 0, 1, 4));
        Check.due("8 up by one", row(x, 0, 5), 11234);
        x = counted(5);
        Check.fine(x, "8 down by one, as they were", x.pour(0, 1, 0, 0, 4));
        Check.due("8 down by one", row(x, 0, 5), 23455);
        x = counted(60);
        Check.fine(x, "8 sixty", x.pour(0, 0, 1, 0, 60));
        Check.due("8 the sixtieth", x.read(1, 59), 60);
        for (int sort = 0; sort < 4; sort++) {
            x = new RustFamily();
            x.tray(0, sort, 1);
            x.tray(3, sort, 1);
            x.write(3, 0, -7);
            Check.fine(x, "8 of sort " + sort, x.pour(3, 0, 0, 0, 1));
            Check.due("8 with its sign", x.read(0, 0), -7);
        }
    }

    private static int showing(String family) {
        return Check.with(family).person(0, 3);
    }

    private static void shows() {
        Check.due("2 younger by one", showing("shows 40;person a age 39 of;"), 0);
        Check.due("2 as old", showing("shows 40;person a age 40 of;"), 1);
        Check.due("2 older by one", showing("shows 40;person a age 41 of;"), 1);
        Check.due("2 not of the line", showing("shows 40;person a age 41;"), 0);
        Check.due("2 of 0 at 0", showing("shows 0;person a age 0 of;"), 1);
        Check.due("2 of 98 at 99", showing("shows 99;life 120;person a age 98 of;"), 0);
        Check.due("2 of 99 at 99", showing("shows 99;life 120;person a age 99 of;"), 1);
        Check.due("2 of 119, older than life", showing("shows 99;life 1;person a age 119 of;"), 1);
        RustFamily x = Check.with("shows 0;life 1;person a age 0 of;");
        Check.due("2 ahead of death", x.person(0, 3), 1);
        x.year(1);
        Check.due("2 dead", x.person(0, 3), 0);
        Check.due("2 old enough", x.person(0, 0), 1);
    }

    private static void showsInAll() {
        RustFamily x = Scenes.crowd();
        Check.due("13 all live", x.many(7), 63);
        Check.due("13 in all", x.many(8), 63);
        x.rule(2, 41);
        Check.due("13 in none", x.many(8), 0);
        x.rule(3, 41);
        x.year(1);
        Check.due("13 all are dead", x.many(7), 0);
        Check.due("13 in none of the dead", x.many(8), 0);
    }

    private static void loved() {
        RustFamily x = Scenes.crowd();
        Check.due("2 by none", x.thing(7, 4), 0);
        for (int p = 0; p < 6; p++) {
            x.dote(p, 7, 9);
        }
        Check.due("2 by all of them 9", x.thing(7, 4), 54);
        Check.due("2 not another", x.thing(6, 4), 0);
        x.rule(4, 9);
        Check.due("2 the most: 486 by 4", x.thing(7, 5), 121);
        x.oil(7);
        Check.due("2 half of the most", x.thing(7, 5), 60);
        x = Check.with("person a age 39 of;person b age 40 of;person c age 41;thing d thick 9;"
            + "loves a d 1;loves b d 2;loves c d 4;");
        Check.due("2 only in whom it shows now", x.thing(0, 4), 2);
    }

    private static int bite(int love, int damp, boolean oil) {
        RustFamily x = Check.with("person a age 40 of;thing b thick 999;damp " + damp + ";loves a b " + love + ";");
        if (oil) {
            x.oil(0);
        }
        return x.thing(0, 5);
    }

    private static void bites() {
        int[][] due = {{0, 9, 0, 0}, {1, 0, 0, 0}, {1, 3, 0, 0}, {1, 4, 1, 0}, {1, 7, 1, 0}, {1, 8, 2, 1}, {2, 1, 0, 0},
            {2, 2, 1, 0}, {2, 3, 1, 0}, {3, 1, 0, 0}, {3, 4, 3, 1}, {3, 5, 3, 1}, {4, 1, 1, 0}, {4, 4, 4, 2}, {5, 3, 3, 1},
            {5, 4, 5, 2}, {7, 5, 8, 4}, {9, 0, 0, 0}, {9, 1, 2, 1}, {9, 9, 20, 10}};
        for (int[] d : due) {
            Check.due("2 love " + d[0] + " by damp " + d[1], bite(d[0], d[1], false), d[2]);
            Check.due("2 half, love " + d[0] + " by damp " + d[1], bite(d[0], d[1], true), d[3]);
        }
    }

    private static void through() {
        RustFamily x = Check.with("breath 1;person a age 40 of;thing b thick 3;thing c thick 1;loves a b 1;");
        Check.due("2 rust 0 of 1", x.thing(1, 6), 0);
        x.breathe(1);
        Check.due("2 rust 1 of 1", x.thing(1, 6), 1);
        x.breathe(0);
        x.breathe(0);
        Check.due("2 rust 2 of 3", x.thing(0, 6), 0);
        Check.due("2 it is bitten", x.thing(0, 5), 1);
        x.breathe(0);
        Check.due("2 rust 3 of 3", x.thing(0, 6), 1);
        Check.due("2 it is bitten no more", x.thing(0, 5), 0);
        Check.due("2 both", x.many(9), 3);
        x.rule(5, 99);
        x = Check.with("breath 99;thing b thick 3;");
        x.breathe(0);
        Check.due("2 rust 99 of 3", x.thing(0, 6), 1);
        x = Check.with("breath 99;thing b thick 999;");
        for (int i = 0; i < 10; i++) {
            x.breathe(0);
        }
        Check.due("2 rust 990 of 999", x.thing(0, 6), 0);
        x.rule(5, 8);
        x.breathe(0);
        Check.due("2 rust 998 of 999", x.thing(0, 6), 0);
        x.rule(5, 1);
        x.breathe(0);
        Check.due("2 rust 999 of 999", x.thing(0, 6), 1);
    }

    /** First PEOPLE are older, then THINGS are bitten. */
    private static void yearOlder() {
        RustFamily x = Check.with("shows 40;person a age 39 of;thing b thick 99;loves a b 5;");
        Check.due("2 not yet", x.thing(0, 5), 0);
        x.year(1);
        Check.due("2 in the year in which it shows first", x.thing(0, 2), 5);
        x = Check.with("shows 40;person a age 38 of;thing b thick 99;loves a b 5;");
        x.year(1);
        Check.due("2 not in the one ahead", x.thing(0, 2), 0);
    }

    private static void yearOfLife() {
        RustFamily x = Check.with("life 60;person a age 59 of;thing b thick 99;loves a b 5;");
        Check.due("2 loved", x.thing(0, 5), 5);
        x.year(1);
        Check.due("2 dead at 60", x.person(0, 2), 0);
        Check.due("2 not bitten in the year of his death", x.thing(0, 2), 0);
        x = Check.with("life 60;person a age 58 of;thing b thick 99;loves a b 5;");
        x.year(1);
        Check.due("2 lives at 59", x.person(0, 2), 1);
        Check.due("2 bitten in his last year", x.thing(0, 2), 5);
        x.year(99);
        Check.due("2 not once more", x.thing(0, 2), 5);
        Check.due("14 when he died", x.person(0, 0), 60);
        x = Check.with("life 1;person a age 0;person b age 1;person c age 119;");
        Check.due("2 all live at first", x.many(7), 7);
        x.year(1);
        Check.due("2 all dead", x.many(7), 0);
        Check.due("14 at 1", x.person(0, 0), 1);
        Check.due("14 at 2", x.person(1, 0), 2);
        Check.due("14 at 120", x.person(2, 0), 120);
        x = Check.with("life 120;person a age 118;");
        x.year(1);
        Check.due("2 119 of 120", x.person(0, 2), 1);
        x.year(1);
        Check.due("2 120 of 120", x.person(0, 2), 0);
        x.rule(3, 120);
        Check.due("2 the dead stay dead", x.person(0, 2), 0);
    }

    private static void coats(int coat, int coatThen, int rustThen) {
        RustFamily x = Check.with("person a age 50 of;thing b thick 99 coat " + coat + ";loves a b 5;");
        x.year(1);
        Check.due("2 coat of " + coat, x.thing(0, 1), coatThen);
        Check.due("2 rust by a coat of " + coat, x.thing(0, 2), rustThen);
    }

    private static void yearCoats() {
        coats(0, 0, 5);
        coats(1, 0, 4);
        coats(4, 0, 1);
        coats(5, 0, 0);
        coats(6, 1, 0);
        coats(999, 994, 0);
    }

    private static void yearMostRust() {
        RustFamily x = Scenes.crowd();
        for (int p = 0; p < 6; p++) {
            x.dote(p, 0, 9);
        }
        x.rule(4, 9);
        Check.fine(x, "18 eight times 121", x.year(8), 0);
        Check.due("2 968", x.thing(0, 2), 968);
        Check.fine(x, "18 once more: through", x.year(1), 1);
        Check.due("2 999 at most", x.thing(0, 2), 999);
        Check.fine(x, "18 and no more", x.year(1), 0);
        Check.due("2 999 yet", x.thing(0, 2), 999);
        x = Check.with("damp 9;breath 99;person a age 50 of;thing b thick 999;loves a b 9;");
        for (int i = 0; i < 9; i++) {
            x.breathe(0);
        }
        x.rule(5, 87);
        x.breathe(0);
        Check.due("2 978", x.thing(0, 2), 978);
        Check.fine(x, "18 20 more: not through", x.year(1), 0);
        Check.due("2 998", x.thing(0, 2), 998);
    }

    private static void yearWentThrough() {
        RustFamily x = Check.with("breath 9;person a age 50 of;thing b thick 5;thing c thick 6;thing d thick 11;thing e thick 9;"
            + "loves a b 5;loves a c 5;loves a d 5;");
        x.breathe(3);
        Check.fine(x, "18 in one: rust 5 of 5, not of 6", x.year(1), 1);
        Check.fine(x, "18 in another: 10 of 6", x.year(1), 2);
        Check.fine(x, "18 15 of 11", x.year(1), 4);
        Check.fine(x, "18 none any more", x.year(99), 0);
        x = Scenes.crowd();
        x.forge(1);
        for (int t = 0; t < 8; t++) {
            x.dote(0, t, 9);
        }
        x.rule(4, 9);
        x.rule(3, 120);
        Check.fine(x, "18 all eight in 50", x.year(50), 255);
    }

    private static void yearOil() {
        RustFamily x = Check.with("person a age 50 of;thing b thick 99;loves a b 5;");
        x.oil(0);
        int[] rust = {2, 4, 6, 11};
        int[] left = {2, 1, 0, 0};
        for (int i = 0; i < 4; i++) {
            x.year(1);
            Check.due("2 half for three years, year " + i, x.thing(0, 2), rust[i]);
            Check.due("2 it lasts so many more, year " + i, x.thing(0, 3), left[i]);
        }
        // Nobody lives: years go by, and OIL with them.
        for (int years = 1; years <= 4; years++) {
            RustFamily y = new RustFamily();
            y.forge(9);
            y.forge(9);
            y.oil(0);
            y.oil(1);
            y.year(years);
            Check.due("2 without people, years " + years, y.thing(0, 3), Math.max(0, 3 - years));
            Check.due("2 the second, too, years " + years, y.thing(1, 3), Math.max(0, 3 - years));
        }
        RustFamily y = Check.with("life 51;person a age 50 of;thing b thick 9;");
        y.oil(0);
        y.year(2);
        Check.due("2 with one that dies", y.thing(0, 3), 1);
    }

    private static void lastYear() {
        RustFamily x = new RustFamily();
        for (int i = 0; i < 101; i++) {
            Check.fine(x, "18 99 more", x.year(99), 0);
        }
        Check.due("18 to 9,999", x.many(6), 9999);
        x = new RustFamily();
        for (int i = 0; i < 100; i++) {
            x.year(99);
        }
        x.year(98);
        Check.due("13 9,998", x.many(6), 9998);
        Check.refused(x, "18 two are too many", x.year(2), 7);
        Check.due("13 not one of them", x.many(6), 9998);
        Check.fine(x, "18 one is fine", x.year(1), 0);
        Check.due("13 9,999", x.many(6), 9999);
        Check.refused(x, "18 none more", x.year(1), 7);
    }

    private static void dote() {
        RustFamily x = Scenes.crowd();
        Check.fine(x, "19 9 from 0", x.dote(5, 7, 9), 0);
        Check.fine(x, "19 0 from 9", x.dote(5, 7, 0), 9);
        Check.fine(x, "19 1 from 0", x.dote(5, 7, 1), 0);
        Check.due("14 above 0", x.person(5, 4), 128);
        Check.refused(x, "19 it is so", x.dote(5, 7, 1), 9);
        Check.due("16 of no other", x.love(4, 7), 0);
        Check.due("16 of nothing else", x.love(5, 6), 0);
        x = Check.with("life 50;person a age 49;thing b thick 1;");
        x.year(1);
        Check.fine(x, "19 the dead, too", x.dote(0, 0, 3), 0);
        Check.due("16 the dead", x.love(0, 0), 3);
    }

    private static void oil() {
        RustFamily x = Scenes.crowd();
        Check.fine(x, "20 three years", x.oil(7), 3);
        Check.due("13 the eighth", x.many(10), 128);
        Check.fine(x, "20 three from now on, not six", x.oil(7), 3);
        Check.due("15 three", x.thing(7, 3), 3);
        x.year(2);
        Check.fine(x, "20 three again, with one left", x.oil(7), 3);
        x.year(3);
        Check.due("13 none left", x.many(10), 0);
    }

    private static void coat() {
        RustFamily x = new RustFamily();
        x.forge(1);
        Check.fine(x, "21 1", x.coat(0, 1), 1);
        Check.fine(x, "21 997 more", x.coat(0, 997), 998);
        Check.fine(x, "21 999", x.coat(0, 1), 999);
        Check.fine(x, "21 what is more is lost", x.coat(0, 1), 999);
        Check.fine(x, "21 999 more, too", x.coat(0, 999), 999);
        Check.due("15 999", x.thing(0, 1), 999);
        x = new RustFamily();
        x.forge(1);
        Check.fine(x, "21 999 at once", x.coat(0, 999), 999);
    }

    private static void mended(int rust, int left) {
        RustFamily x = new RustFamily();
        x.forge(999);
        for (int i = rust; i > 0; i -= 99) {
            x.rule(5, Math.min(i, 99));
            x.breathe(0);
        }
        Check.due("22 rust", x.thing(0, 2), rust);
        Check.fine(x, "22 of " + rust, x.mend(0), left);
        Check.due("15 of " + rust, x.thing(0, 2), left);
    }

    private static void mend() {
        mended(0, 0);
        mended(1, 0);
        mended(2, 1);
        mended(3, 1);
        mended(4, 2);
        mended(997, 498);
        mended(998, 499);
    }

    private static void breathe() {
        RustFamily x = Check.with("breath 0;thing b thick 1 coat 9;");
        Check.fine(x, "23 by 0", x.breathe(0), 0);
        x.rule(5, 1);
        Check.fine(x, "23 by 1: through, whatever coat", x.breathe(0), 1);
        Check.due("15 the coat stays", x.thing(0, 1), 9);
        x = Check.with("breath 99;thing b thick 999;");
        for (int i = 1; i <= 10; i++) {
            Check.fine(x, "23 by 99", x.breathe(0), 99 * i);
        }
        x.rule(5, 9);
        x.mark();
        Check.fine(x, "23 to 999", x.breathe(0), 999);
        x.back();
        x.rule(5, 10);
        x.mark();
        Check.fine(x, "23 999 at most", x.breathe(0), 999);
        x.back();
        x.rule(5, 8);
        Check.fine(x, "23 to 998", x.breathe(0), 998);
        x.rule(5, 99);
        Check.fine(x, "23 from 998 on", x.breathe(0), 999);
        Check.due("13 999", x.many(11), 999);
    }

    private static void forge() {
        RustFamily x = new RustFamily();
        for (int i = 0; i < 8; i++) {
            Check.fine(x, "24 number " + i, x.forge(i == 0 ? 1 : 999), i);
        }
        Check.due("15 thick 1", x.thing(0, 0), 1);
        Check.due("15 thick 999", x.thing(7, 0), 999);
        Check.due("13 eight", x.many(1), 8);
        // Another one than was there ahead: without its COAT, RUST, OIL, nor love of it.
        x = Check.with("breath 5;person a age 50 of;thing b thick 99 coat 9;loves a b 9;");
        x.breathe(0);
        x.oil(0);
        Texts.family(x, "person a age 50 of;");
        Texts.family(x, "person a age 50 of;");
        x.forge(99);
        int[] due = {99, 0, 0, 0, 0, 0, 0};
        for (int i = 0; i < 7; i++) {
            Check.due("24 nothing is left in it, " + i, x.thing(0, i), due[i]);
        }
        Check.due("24 nor in whom loved", x.love(0, 0), 0);
        x = Check.with("person a age 50 of;thing b thick 99;");
        x.mark();
        x.forge(7);
        x.dote(0, 1, 9);
        x.coat(1, 9);
        x.oil(1);
        x.breathe(1);
        x.back();
        x.forge(8);
        int[] again = {8, 0, 0, 0, 0, 0, 0};
        for (int i = 0; i < 7; i++) {
            Check.due("24 nothing is left behind back(), " + i, x.thing(1, i), again[i]);
        }
        Check.due("24 nor love", x.love(0, 1), 0);
    }

    private static void born() {
        RustFamily x = new RustFamily();
        for (int i = 0; i < 6; i++) {
            Check.fine(x, "25 number " + i, x.born(i == 0 ? 0 : 119, i % 2 == 0), i);
        }
        Check.due("14 age 0", x.person(0, 0), 0);
        Check.due("14 of the line", x.person(0, 1), 1);
        Check.due("14 age 119", x.person(5, 0), 119);
        Check.due("14 not of the line", x.person(5, 1), 0);
        Check.due("13 all live, whatever their age", x.many(7), 63);
        Check.due("13 it shows", x.many(8), 20);
        // Another one than was there ahead: he lives, and loves nothing.
        x = Check.with("life 60;person a age 59;thing b thick 99;loves a b 9;");
        x.mark();
        x.born(59, true);
        x.dote(1, 0, 9);
        x.year(1);
        x.back();
        x.born(7, false);
        int[] due = {7, 0, 1, 0, 0};
        for (int i = 0; i < 5; i++) {
            Check.due("25 nothing is left in him, " + i, x.person(1, i), due[i]);
        }
        Check.due("25 nor love", x.love(1, 0), 0);
    }

    private static void rules() {
        int[] least = {0, 1, 0, 0};
        int[] most = {99, 120, 9, 99};
        for (int i = 0; i < 4; i++) {
            RustFamily x = new RustFamily();
            Check.fine(x, "26 the least of " + i, x.rule(2 + i, least[i]));
            Check.due("13 the least of " + i, x.many(2 + i), least[i]);
            Check.fine(x, "26 the same again", x.rule(2 + i, least[i]));
            Check.fine(x, "26 the most of " + i, x.rule(2 + i, most[i]));
            Check.due("13 the most of " + i, x.many(2 + i), most[i]);
            int[] others = {40, 70, 4, 3};
            for (int j = 0; j < 4; j++) {
                Check.due("26 of the others nothing", x.many(2 + j), j == i ? most[i] : others[j]);
            }
        }
    }

    private static void copyRust() {
        RustFamily x = Scenes.crowd();
        x.rule(5, 1);
        for (int t = 0; t < 8; t++) {
            for (int i = 0; i <= t; i++) {
                x.breathe(t);
            }
        }
        x.tray(0, 3, 8);
        Check.fine(x, "17 eight into eight", x.copyRust(0), 8);
        Check.due("17 by numbers", row(x, 0, 8), 12345678);
        x.tray(1, 0, 9);
        x.write(1, 8, 9);
        Check.fine(x, "17 eight into nine", x.copyRust(1), 8);
        Check.due("17 the ninth stays", row(x, 1, 9), 123456789);
        int[] rust = {127, 128, 255, 256};
        int[] kept = {127, -128, -1, 0};
        for (int i = 0; i < 4; i++) {
            RustFamily y = new RustFamily();
            y.forge(999);
            for (int j = rust[i]; j > 0; j -= 99) {
                y.rule(5, Math.min(j, 99));
                y.breathe(0);
            }
            y.tray(0, 0, 1);
            y.tray(1, 1, 1);
            Check.fine(y, "17 into 8 bits", y.copyRust(0), 1);
            Check.due("17 cut: " + rust[i], y.read(0, 0), kept[i]);
            Check.fine(y, "17 into 16 bits", y.copyRust(1), 1);
            Check.due("17 not cut: " + rust[i], y.read(1, 0), rust[i]);
        }
    }

    private static void sets() {
        RustFamily x = Scenes.crowd();
        x.rule(5, 99);
        for (int t = 0; t < 8; t++) {
            x.oil(t);
            x.dote(5, t, 1);
            for (int i = 0; i < 11; i++) {
                x.breathe(t);
            }
        }
        Check.due("13 all have oil", x.many(10), 255);
        Check.due("13 all are through", x.many(9), 255);
        Check.due("13 rust of all", x.many(11), 7992);
        Check.due("14 all are loved", x.person(5, 4), 255);
        Check.due("14 none is loved", x.person(4, 4), 0);
        Check.due("30 all", x.throughBy(0), 255);
    }
}
