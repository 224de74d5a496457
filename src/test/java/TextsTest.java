/** Promises 9 to 17: the tape, texts and their FAULTS, what is told of a FAMILY. */
public final class TextsTest {
    private TextsTest() {
    }

    public static void main(String[] args) {
        feed();
        family();
        familyIsTaken();
        familyFaults();
        familyLimits();
        tokens();
        names();
        years();
        yearsFaults();
        yearsLimits();
        fault();
        many();
        person();
        thing();
        love();
        copyRust();
        Check.end("TextsTest");
    }

    private static void feed() {
        RustFamily x = new RustFamily();
        // "thing a thick 321;" and two blanks.
        Check.due("9 twenty", x.feed(0x7468696e, 0x67206120, 0x74686963, 0x6b203332, 0x313b2020), 20);
        Check.fine(x, "9 read in this order", x.family(18), 1);
        Check.fine(x, "9 thick", x.thing(0, 0), 321);
        for (int i = 1; i <= 45; i++) {
            Check.due("9 more", x.feed(0x20202020, 0x20202020, 0x20202020, 0x20202020, 0x20202020), 20 * i);
        }
        x.many(12);
        Check.due("9 above 900", x.feed(0, 0, 0, 0, 0), -1);
        Check.due("9 has no status", x.status(), 5);
        Check.fine(x, "9 nothing came: 900 blanks", x.family(900), 0);
        Check.due("9 empty then", x.feed(0, 0, 0, 0, 0), 20);
        x.family(20);
        Check.fault(x, "thing " + (char) 233 + " thick 1;", 1, 6);
    }

    private static void family() {
        RustFamily x = new RustFamily();
        Texts.feed(x, "thing a thick 5;thing b thick 6;");
        Check.refused(x, "10 more than there is", x.family(41), 5);
        Check.refused(x, "10 below 0", x.family(-1), 5);
        Check.fine(x, "10 the tape stayed", x.family(16), 1);
        Check.refused(x, "10 the tape is empty then", x.family(1), 5);
        Check.fine(x, "10 nothing", x.family(0), 0);
        Check.fine(x, "10 things", Texts.family(x, Check.FAMILY), 4);
        Check.refused(x, "10 a fault", Texts.family(x, "thing a thick 0;"), 10);
        Check.refused(x, "10 empties the tape, too", x.family(1), 5);
        Check.fine(x, "10 the old one stays", x.many(1), 4);
        Check.fine(x, "10 with its people", x.many(0), 4);
    }

    private static void familyIsTaken() {
        RustFamily x = Check.with(Check.FAMILY, "year 1;");
        x.oil(1);
        x.year(3);
        x.rule(4, 9);
        Check.fine(x, "10 another", Texts.family(x, "person old age 119 of; thing a thick 5 coat 999;"), 1);
        int[] due = {1, 1, 40, 70, 4, 3, 0, 1, 1, 0, 0, 0};
        for (int i = 0; i < due.length; i++) {
            Check.fine(x, "10 many " + i, x.many(i), due[i]);
        }
        Check.fine(x, "10 nothing is loved", x.love(0, 0), 0);
        Check.fine(x, "10 coat", x.thing(0, 1), 999);
        Check.fine(x, "10 without oil", x.thing(0, 3), 0);
        Check.refused(x, "10 no years told", x.live(0), 8);
        x = Check.with("person a age 0;thing b thick 1;thing c thick 2;loves a b 3;loves a b 0;loves a c 1;loves a c 9;");
        Check.fine(x, "10 told again: the latest", x.love(0, 0), 0);
        Check.fine(x, "10 told again: the latest, too", x.love(0, 1), 9);
    }

    private static void familyFaults() {
        RustFamily x = new RustFamily();
        Check.fault(x, "Shows 4;", 1, 0);
        Check.fault(x, "shows 4,", 1, 7);
        Check.fault(x, "shows 12345;", 1, 6);
        Check.fault(x, "shows 00012;", 1, 6);
        Check.fault(x, "\t", 1, 0);
        Check.fault(x, "12345", 1, 0);
        Check.fault(x, "12", 2, 0);
        Check.fault(x, ";", 2, 0);
        Check.fault(x, "shows", 2, 5);
        Check.fault(x, "shows  \n", 2, 8);
        Check.fault(x, "shows 4", 2, 7);
        Check.fault(x, "shows 4 shows", 2, 8);
        Check.fault(x, "shows ;", 2, 6);
        Check.fault(x, "shows = 4;", 2, 6);
        Check.fault(x, "year 4;", 2, 0);
        Check.fault(x, "person abcdefghi age 4;", 2, 7);
        Check.fault(x, "person age age 4;", 2, 7);
        Check.fault(x, "person stop age 4;", 2, 7);
        Check.fault(x, "person 4 age 4;", 2, 7);
        Check.fault(x, "person a 4;", 2, 9);
        Check.fault(x, "person a age of;", 2, 13);
        Check.fault(x, "person a age 4 of of;", 2, 18);
        Check.fault(x, "thing a thick 4 of;", 2, 16);
        Check.fault(x, "thing a coat 4;", 2, 8);
        Check.fault(x, "thing a thick 4 coat;", 2, 20);
        Check.fault(x, "person a age 4;person a age 4;", 3, 22);
        Check.fault(x, "person a age 4;thing a thick 4;", 3, 21);
        Check.fault(x, "thing a thick 4;person a age 4;", 3, 23);
        Check.fault(x, "person a age 4;loves b", 3, 21);
        Check.fault(x, "person a age 4;thing b thick 4;loves b a 4;", 3, 37);
        Check.fault(x, "person a age 4;thing b thick 4;loves a a 4;", 3, 39);
        Check.fault(x, "person a age 4;thing b thick 4;loves a abcdefghi 4;", 2, 39);
        Check.fault(x, "shows 100;", 4, 6);
        Check.fault(x, "life 0;", 4, 5);
        Check.fault(x, "life 121;", 4, 5);
        Check.fault(x, "damp 10;", 4, 5);
        Check.fault(x, "breath 100;", 4, 7);
        Check.fault(x, "person a age 120;", 4, 13);
        Check.fault(x, "thing a thick 0;", 4, 14);
        Check.fault(x, "thing a thick 1000;", 4, 14);
        Check.fault(x, "thing a thick 1 coat 1000;", 4, 21);
        Check.fault(x, "person a age 4;thing b thick 4;loves a b 10;", 4, 41);
        Check.fault(x, "shows 1;shows 1;", 5, 8);
        Check.fault(x, "life 1;life x", 5, 7);
        Check.fault(x, "damp 0;damp 1;", 5, 7);
        Check.fault(x, "breath 1; breath !", 5, 10);
        Check.fault(x, "damp 10 !", 4, 5);
    }

    private static void familyLimits() {
        RustFamily x = new RustFamily();
        String six = "person a age 0;person b age 0;person c age 0;person d age 0;person e age 0;person f age 119;";
        String eight = "thing g thick 1;thing h thick 1;thing i thick 1;thing j thick 1;thing k thick 1;thing l thick 1;"
            + "thing m thick 1;thing n thick 999;";
        Check.fine(x, "10 all", Texts.family(x, "shows 0;life 120;damp 0;breath 0;" + six + eight), 8);
        Check.fine(x, "10 six", x.many(0), 6);
        Check.fine(x, "10 shows 0", x.many(2), 0);
        Check.fine(x, "10 life 120", x.many(3), 120);
        Check.fine(x, "10 damp 0", x.many(4), 0);
        Check.fine(x, "10 breath 0", x.many(5), 0);
        Check.fine(x, "10 thickest", x.thing(7, 0), 999);
        Check.fine(x, "10 the other edges", Texts.family(x, "shows 99;life 1;damp 9;breath 99;thing abcdefgh thick 1;"), 1);
        Check.fine(x, "10 coats", Texts.family(x, "thing a thick 1 coat 0;thing b thick 1 coat 999;"), 2);
        Check.fine(x, "10 the thickest coat", x.thing(1, 1), 999);
        Check.fault(x, six + "person a", 6, six.length());
        Check.fault(x, eight + "thing !", 6, eight.length());
    }

    private static void tokens() {
        RustFamily x = new RustFamily();
        Check.fine(x, "10 no blanks", Texts.family(x, "shows0007;person a age5of;thing b thick9coat3;loves a b 4;"), 1);
        Check.fine(x, "10 leading zeros", x.many(2), 7);
        Check.fine(x, "10 of the line", x.person(0, 1), 1);
        Check.fine(x, "10 coat", x.thing(0, 1), 3);
        Check.fine(x, "10 blanks", Texts.family(x, "\n \n thing\nb\n thick  9\n;\n"), 1);
        Check.fault(x, "personabe age 4;", 2, 0);
        Check.fault(x, "person ab4 age 4;", 2, 9);
    }

    private static void names() {
        RustFamily x = new RustFamily();
        String reserved = "shows life damp breath person age of thing thick coat loves year oil mend any when through rust"
            + " loop end stop";
        for (String word : reserved.split(" ")) {
            Check.fault(x, "person " + word + " age 1;", 2, 7);
            Check.fault(x, "thing " + word + " thick 1;", 2, 6);
            Check.faultOfYears(x, "oil " + word + ";", 2, 4);
        }
        Check.fine(x, "10 unlike names", Texts.family(x, "thing zzzzzzzz thick 1;thing zzzzzzzy thick 2;thing z thick 3;"
            + "thing zz thick 4;thing az thick 5;thing za thick 6;thing endz thick 7;thing en thick 8;"), 8);
        Check.fine(x, "11 each by its own", Texts.years(x, "coat zzzzzzzz 1;coat zzzzzzzy 2;coat z 3;coat zz 4;coat az 5;"
            + "coat za 6;coat endz 7;coat en 8;"), 8);
        x.live(0);
        for (int i = 0; i < 8; i++) {
            Check.fine(x, "11 coat " + i, x.thing(i, 1), i + 1);
        }
    }

    private static void years() {
        RustFamily x = Check.with(Check.FAMILY);
        Check.fine(x, "11 steps", Texts.years(x, "year 1;loop 2;any;end;"), 3);
        Texts.feed(x, "year 2;oil gate;");
        Check.refused(x, "11 more than there is", x.years(21), 5);
        Check.refused(x, "11 below 0", x.years(-1), 5);
        Check.fine(x, "11 the tape stayed", x.years(7), 1);
        Check.refused(x, "11 empty then", x.years(1), 5);
        Check.refused(x, "11 a fault", Texts.years(x, "year 21;"), 10);
        Check.refused(x, "11 empties it, too", x.years(1), 5);
        Check.fine(x, "11 the old ones stay", x.live(0), 1);
        Check.fine(x, "11 two of them", x.lived(1), 2);
        Check.fine(x, "11 none", x.years(0), 0);
        Check.fine(x, "11 are lived", x.live(0), 0);
        String all = "year 20;oil gate;loves abe gate 0;damp 9;coat gate 99;mend gate;any;when through gate;end;"
            + "when rust gate<0;end;when rust gate > 999;end;when rust gate=5;end;when shows abe;end;loop 99;end;stop;";
        Check.fine(x, "11 one of each", Texts.years(x, all), 14);
    }

    private static void yearsFaults() {
        RustFamily x = Check.with(Check.FAMILY);
        Check.faultOfYears(x, "year 1;?", 1, 7);
        Check.faultOfYears(x, "year 00001;", 1, 5);
        Check.faultOfYears(x, "person abe age 4;", 2, 0);
        Check.faultOfYears(x, "year 1", 2, 6);
        Check.faultOfYears(x, "end;", 2, 0);
        Check.faultOfYears(x, "loop 2;end;end;", 2, 11);
        Check.faultOfYears(x, "loop 2;end", 2, 10);
        Check.faultOfYears(x, "loop 2;year 1; ", 2, 15);
        Check.faultOfYears(x, "when damp;", 2, 5);
        Check.faultOfYears(x, "when rust gate;", 2, 14);
        Check.faultOfYears(x, "when rust gate < ;", 2, 17);
        Check.faultOfYears(x, "when rust gate <= 4;", 2, 16);
        Check.faultOfYears(x, "any;any any;", 2, 8);
        Check.faultOfYears(x, "oil year;", 2, 4);
        Check.faultOfYears(x, "oil abcdefghi;", 2, 4);
        Check.faultOfYears(x, "oil pot;", 3, 4);
        Check.faultOfYears(x, "oil abe;", 3, 4);
        Check.faultOfYears(x, "mend abe;", 3, 5);
        Check.faultOfYears(x, "coat abe 4;", 3, 5);
        Check.faultOfYears(x, "loves gate", 3, 6);
        Check.faultOfYears(x, "loves abe ben", 3, 10);
        Check.faultOfYears(x, "when shows gate;", 3, 11);
        Check.faultOfYears(x, "when through abe;", 3, 13);
        Check.faultOfYears(x, "when rust abe;", 3, 10);
        Check.faultOfYears(x, "year 0;", 4, 5);
        Check.faultOfYears(x, "year 21;", 4, 5);
        Check.faultOfYears(x, "loves abe gate 10;", 4, 15);
        Check.faultOfYears(x, "damp 10;", 4, 5);
        Check.faultOfYears(x, "coat gate 0;", 4, 10);
        Check.faultOfYears(x, "coat gate 100;", 4, 10);
        Check.faultOfYears(x, "when rust gate = 1000;", 4, 17);
        Check.faultOfYears(x, "loop 0;", 4, 5);
        Check.faultOfYears(x, "loop 100;", 4, 5);
        // Nothing that was forged or born has a NAME.
        x.forge(4);
        x.born(4, true);
        Check.faultOfYears(x, "oil a;", 3, 4);
        Check.faultOfYears(x, "loves a gate 1;", 3, 6);
    }

    private static void yearsLimits() {
        RustFamily x = Check.with(Check.FAMILY);
        String thirty = "stop;".repeat(29) + "loop 1;";
        Check.fine(x, "11 thirty, and an end", Texts.years(x, thirty + "end;"), 30);
        Check.faultOfYears(x, thirty + "stop;end;", 6, thirty.length());
        Check.faultOfYears(x, thirty + "foo", 2, thirty.length());
        Check.fine(x, "11 three deep", Texts.years(x, "when shows abe;loop 1;loop 1;any;end;end;end;"), 4);
        Check.faultOfYears(x, "loop 1;when shows abe;loop 1;when rust gate=1;end;end;end;end;", 7, 29);
        Check.faultOfYears(x, "stop;".repeat(27) + "loop 1;loop 1;loop 1;loop 1;", 6, 27 * 5 + 21);
        Check.fine(x, "11 as deep side by side", Texts.years(x, "loop 1;loop 1;loop 1;end;loop 1;end;end;end;"), 4);
        String long300 = "any;" + " ".repeat(296);
        Check.fine(x, "11 300 bytes", Texts.years(x, long300), 1);
        Texts.feed(x, long300 + " ");
        Check.refused(x, "11 301 bytes", x.years(301), 5);
        Check.fine(x, "11 they stayed", x.years(300), 1);
    }

    private static void fault() {
        RustFamily x = new RustFamily();
        Check.due("12 ahead of any", x.fault(0), -1);
        x.family(1);
        Check.due("12 a number that can't be tells none", x.fault(0), -1);
        x.family(0);
        Check.due("12 without one", x.fault(0), 0);
        Check.due("12 without a place", x.fault(1), -1);
        Check.fault(x, "life 0;", 4, 5);
        x.family(99);
        x.years(99);
        Check.due("12 still the latest", x.fault(0), 4);
        Check.due("12 still its place", x.fault(1), 5);
        Check.due("12 others", x.fault(2), -1);
        Check.due("12 others, too", x.fault(-1), -1);
        x.years(0);
        Check.due("12 years, too", x.fault(0), 0);
        Check.due("12 years, too, without a place", x.fault(1), -1);
    }

    private static void many() {
        RustFamily x = Check.with(Check.FAMILY);
        x.oil(0);
        x.oil(3);
        x.year(2);
        int[] due = {4, 4, 40, 70, 4, 3, 2, 7, 3, 0, 9, 16};
        for (int i = 0; i < due.length; i++) {
            Check.fine(x, "13 many " + i, x.many(i), due[i]);
        }
        x.year(1);
        Check.fine(x, "13 through", x.many(9), 4);
        Check.refused(x, "13 many 12", x.many(12), 5);
        Check.refused(x, "13 many -1", x.many(-1), 5);
    }

    private static void person() {
        RustFamily x = Check.with(Check.FAMILY);
        int[][] due = {{45, 1, 1, 1, 7}, {38, 1, 1, 0, 4}, {50, 0, 1, 0, 8}, {68, 1, 1, 1, 6}};
        for (int p = 0; p < 4; p++) {
            for (int i = 0; i < 5; i++) {
                Check.fine(x, "14 person " + p + ", " + i, x.person(p, i), due[p][i]);
            }
        }
        x.year(9);
        Check.fine(x, "14 age of the dead", x.person(3, 0), 70);
        Check.fine(x, "14 it does not show in the dead", x.person(3, 3), 0);
        Check.fine(x, "14 the dead", x.person(3, 2), 0);
        Check.fine(x, "14 what the dead loved", x.person(3, 4), 6);
        Check.refused(x, "14 nobody", x.person(4, 9), 2);
        Check.refused(x, "14 nobody, too", x.person(-1, 0), 2);
        Check.refused(x, "14 what 5", x.person(0, 5), 5);
        Check.refused(x, "14 what -1", x.person(0, -1), 5);
    }

    private static void thing() {
        RustFamily x = Check.with(Check.FAMILY);
        int[][] due = {{20, 4, 0, 0, 3, 3, 0}, {30, 0, 0, 0, 7, 7, 0}, {9, 0, 0, 0, 2, 2, 0}, {15, 0, 0, 0, 0, 0, 0}};
        for (int t = 0; t < 4; t++) {
            for (int i = 0; i < 7; i++) {
                Check.fine(x, "15 thing " + t + ", " + i, x.thing(t, i), due[t][i]);
            }
        }
        x.rule(4, 3);
        Check.fine(x, "15 7 times 3 by 4", x.thing(1, 5), 5);
        x.oil(1);
        Check.fine(x, "15 oil", x.thing(1, 3), 3);
        Check.fine(x, "15 half of 5", x.thing(1, 5), 2);
        x.rule(4, 4);
        x.rule(2, 46);
        Check.fine(x, "15 loved now, not in a year", x.thing(0, 4), 0);
        x.rule(2, 40);
        x.year(9);
        Check.fine(x, "15 through", x.thing(2, 6), 1);
        Check.fine(x, "15 loved yet", x.thing(2, 4), 5);
        Check.fine(x, "15 but not bitten", x.thing(2, 5), 0);
        Check.refused(x, "15 no such thing", x.thing(4, 9), 2);
        Check.refused(x, "15 what 7", x.thing(0, 7), 5);
        Check.refused(x, "15 what -1", x.thing(0, -1), 5);
    }

    private static void love() {
        RustFamily x = Check.with(Check.FAMILY);
        Check.fine(x, "16 love", x.love(2, 3), 9);
        Check.fine(x, "16 none", x.love(2, 0), 0);
        Check.refused(x, "16 nobody", x.love(4, 0), 2);
        Check.refused(x, "16 no thing", x.love(0, 4), 2);
        Check.refused(x, "16 below 0", x.love(-1, -1), 2);
    }

    private static void copyRust() {
        RustFamily x = Check.with("breath 99;thing a thick 999;thing b thick 999;");
        x.breathe(0);
        x.breathe(1);
        x.breathe(1);
        x.tray(0, 0, 3);
        x.write(0, 2, 7);
        Check.fine(x, "17 how many", x.copyRust(0), 2);
        Check.fine(x, "17 the first", x.read(0, 0), 99);
        Check.fine(x, "17 198 cut to 8 bits", x.read(0, 1), -58);
        Check.fine(x, "17 the others stay", x.read(0, 2), 7);
        x.tray(1, 3, 1);
        Check.refused(x, "17 too few", x.copyRust(1), 4);
        Check.fine(x, "17 nothing came", x.read(1, 0), 0);
        Check.refused(x, "17 missing", x.copyRust(2), 3);
        Check.refused(x, "17 no such tray", x.copyRust(4), 1);
    }
}
