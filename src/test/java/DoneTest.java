/** Promises 18 to 26: what is done. */
public final class DoneTest {
    private DoneTest() {
    }

    public static void main(String[] args) {
        year();
        yearOfPeople();
        yearOfThings();
        lastYear();
        dote();
        oil();
        coat();
        mend();
        breathe();
        forge();
        born();
        rule();
        Check.end("DoneTest");
    }

    private static void year() {
        RustFamily x = Check.with(Check.FAMILY);
        Check.fine(x, "18 nothing yet", x.year(2), 0);
        Check.fine(x, "18 the knife", x.year(1), 4);
        Check.fine(x, "18 the knife was through, the gate is now", x.year(5), 1);
        Check.fine(x, "18 the year", x.many(6), 8);
        Check.refused(x, "18 no years", x.year(0), 5);
        Check.refused(x, "18 100 years", x.year(100), 5);
        Check.refused(x, "18 -1 years", x.year(-1), 5);
        Check.fine(x, "18 99 years", x.year(99), 2);
    }

    private static void yearOfPeople() {
        RustFamily x = Check.with("life 50;shows 40;person a age 39 of;person b age 49 of;person c age 90;");
        x.year(1);
        Check.fine(x, "18 as old as shows", x.person(0, 3), 1);
        Check.fine(x, "18 as old as life", x.person(1, 2), 0);
        Check.fine(x, "18 older than life", x.person(2, 2), 0);
        Check.fine(x, "18 age at death", x.person(2, 0), 91);
        x.year(1);
        Check.fine(x, "18 the dead grow no older", x.person(2, 0), 91);
        Check.fine(x, "18 the living do", x.person(0, 0), 41);
    }

    private static void yearOfThings() {
        RustFamily x = Check.with("life 120;damp 9;person a age 50 of;thing b thick 30 coat 25;thing c thick 999;"
            + "loves a b 9;loves a c 9;");
        Check.fine(x, "18 the coat goes first", x.year(1), 0);
        Check.fine(x, "18 coat left", x.thing(0, 1), 5);
        Check.fine(x, "18 no rust yet", x.thing(0, 2), 0);
        x.year(1);
        Check.fine(x, "18 the rest is rust", x.thing(0, 2), 15);
        Check.fine(x, "18 no coat", x.thing(0, 1), 0);
        Check.fine(x, "18 through", x.year(1), 1);
        Check.fine(x, "18 rust", x.thing(0, 2), 35);
        x.coat(1, 3);
        x.oil(1);
        x.year(4);
        Check.fine(x, "18 through is not bitten", x.thing(0, 2), 35);
        Check.fine(x, "18 60, then 3 times 10 and 20 less the coat", x.thing(1, 2), 60 + 30 + 20 - 3);
        Check.fine(x, "18 oil is gone", x.thing(1, 3), 0);
        x.year(46);
        Check.fine(x, "18 999 at most", x.thing(1, 2), 999);
    }

    private static void lastYear() {
        RustFamily x = Check.with(Check.FAMILY);
        for (int i = 0; i < 101; i++) {
            x.year(99);
        }
        Check.due("18 9,999", x.many(6), 9999);
        Check.refused(x, "18 one more", x.year(1), 7);
        Check.refused(x, "18 a number that can't be comes first", x.year(100), 5);
        Check.due("18 still 9,999", x.many(6), 9999);
    }

    private static void dote() {
        RustFamily x = Check.with(Check.FAMILY);
        Check.fine(x, "19 by how much he did", x.dote(0, 0, 9), 3);
        Check.fine(x, "19 from now on", x.love(0, 0), 9);
        Check.refused(x, "19 it is so", x.dote(0, 0, 9), 9);
        Check.fine(x, "19 no more", x.dote(0, 0, 0), 9);
        Check.refused(x, "19 10", x.dote(0, 0, 10), 5);
        Check.refused(x, "19 -1", x.dote(0, 0, -1), 5);
        Check.refused(x, "19 nobody", x.dote(4, 0, 10), 2);
        Check.refused(x, "19 no thing", x.dote(0, 4, 1), 2);
        Check.fine(x, "19 refused ones change nothing", x.love(0, 0), 0);
    }

    private static void oil() {
        RustFamily x = Check.with(Check.FAMILY);
        Check.fine(x, "20 three years", x.oil(1), 3);
        x.year(2);
        Check.fine(x, "20 one is left", x.thing(1, 3), 1);
        Check.fine(x, "20 three again", x.oil(1), 3);
        x.year(1);
        Check.refused(x, "20 through", x.oil(2), 9);
        Check.fine(x, "20 it has none", x.thing(2, 3), 0);
        Check.refused(x, "20 no thing", x.oil(4), 2);
        Check.refused(x, "20 below 0", x.oil(-1), 2);
    }

    private static void coat() {
        RustFamily x = Check.with(Check.FAMILY);
        Check.fine(x, "21 more", x.coat(0, 5), 9);
        Check.fine(x, "21 999 at most", x.coat(0, 999), 999);
        Check.refused(x, "21 0", x.coat(0, 0), 5);
        Check.refused(x, "21 1000", x.coat(0, 1000), 5);
        Check.refused(x, "21 no thing", x.coat(4, 0), 2);
        x.year(3);
        Check.refused(x, "21 through", x.coat(2, 1), 9);
        Check.refused(x, "21 a number that can't be comes first", x.coat(2, 0), 5);
        Check.fine(x, "21 it has none", x.thing(2, 1), 0);
    }

    private static void mend() {
        RustFamily x = Check.with("breath 7;thing a thick 8;");
        Check.fine(x, "22 nothing to mend", x.mend(0), 0);
        x.breathe(0);
        Check.fine(x, "22 four of seven gone", x.mend(0), 3);
        Check.fine(x, "22 two of three gone", x.mend(0), 1);
        Check.fine(x, "22 one of one gone", x.mend(0), 0);
        x.breathe(0);
        x.breathe(0);
        Check.refused(x, "22 through", x.mend(0), 9);
        Check.fine(x, "22 as it was", x.thing(0, 2), 14);
        Check.refused(x, "22 no thing", x.mend(1), 2);
    }

    private static void breathe() {
        RustFamily x = Check.with("breath 99;thing a thick 999 coat 50;");
        for (int i = 1; i <= 10; i++) {
            Check.fine(x, "23 more", x.breathe(0), 99 * i);
        }
        Check.fine(x, "23 999 at most", x.breathe(0), 999);
        Check.fine(x, "23 whatever coat", x.thing(0, 1), 50);
        Check.refused(x, "23 through", x.breathe(0), 9);
        Check.refused(x, "23 no thing", x.breathe(1), 2);
    }

    private static void forge() {
        RustFamily x = Check.with(Check.FAMILY);
        Check.fine(x, "24 its number", x.forge(999), 4);
        int[] due = {999, 0, 0, 0, 0, 0, 0};
        for (int i = 0; i < 7; i++) {
            Check.fine(x, "24 thing " + i, x.thing(4, i), due[i]);
        }
        for (int p = 0; p < 4; p++) {
            Check.fine(x, "24 nobody loves it", x.love(p, 4), 0);
        }
        Check.refused(x, "24 0", x.forge(0), 5);
        Check.refused(x, "24 1000", x.forge(1000), 5);
        for (int i = 5; i < 8; i++) {
            Check.fine(x, "24 more", x.forge(1), i);
        }
        Check.refused(x, "24 a ninth", x.forge(1), 7);
        Check.refused(x, "24 a ninth that can't be", x.forge(0), 5);
        Check.due("24 eight", x.many(1), 8);
        // What was loved in the row of a FAMILY that is gone is not loved in another one.
        x.dote(0, 7, 9);
        Texts.family(x, "person a age 1;");
        Texts.family(x, "person a age 1;");
        x.forge(1);
        Check.fine(x, "24 anew", x.love(0, 0), 0);
    }

    private static void born() {
        RustFamily x = Check.with(Check.FAMILY);
        Check.fine(x, "25 the number", x.born(119, true), 4);
        int[] due = {119, 1, 1, 1, 0};
        for (int i = 0; i < 5; i++) {
            Check.fine(x, "25 person " + i, x.person(4, i), due[i]);
        }
        Check.refused(x, "25 -1", x.born(-1, true), 5);
        Check.refused(x, "25 120", x.born(120, true), 5);
        Check.fine(x, "25 not of the line", x.born(0, false), 5);
        Check.fine(x, "25 is told so", x.person(5, 1), 0);
        Check.refused(x, "25 a seventh", x.born(0, true), 7);
        Check.refused(x, "25 a seventh that can't be", x.born(120, true), 5);
        Check.due("25 six", x.many(0), 6);
    }

    private static void rule() {
        RustFamily x = new RustFamily();
        int[] least = {0, 0, 0, 1, 0, 0};
        int[] most = {0, 0, 99, 120, 9, 99};
        for (int what = 2; what < 6; what++) {
            Check.fine(x, "26 least " + what, x.rule(what, least[what]));
            Check.due("26 is so " + what, x.many(what), least[what]);
            Check.fine(x, "26 most " + what, x.rule(what, most[what]));
            Check.due("26 is so, too " + what, x.many(what), most[what]);
            Check.refused(x, "26 less " + what, x.rule(what, least[what] - 1), 5);
            Check.refused(x, "26 more " + what, x.rule(what, most[what] + 1), 5);
            Check.due("26 stays " + what, x.many(what), most[what]);
        }
        Check.refused(x, "26 what 1", x.rule(1, 1), 5);
        Check.refused(x, "26 what 6", x.rule(6, 1), 5);
        x = Check.with(Check.FAMILY);
        x.rule(3, 1);
        Check.due("26 nobody dies at once", x.many(7), 15);
        x.year(1);
        Check.due("26 but in a year", x.many(7), 0);
        x = Check.with(Check.FAMILY);
        x.rule(2, 69);
        Check.due("26 shows in nobody at once", x.many(8), 0);
    }
}
