/** The edges of ==== 1 and of the YEARS' text (==== 4): bytes, TOKENS, NAMES, NUMBERS, places of FAULTS, what they leave. */
public final class TextEdgesTest {
    private static final String TWO = "person a age 4;thing b thick 4;";

    private TextEdgesTest() {
    }

    public static void main(String[] args) {
        bytes();
        signs();
        wordsBeside();
        digits();
        nameLetters();
        nameTaken();
        toldAhead();
        numbers();
        numbersOfYears();
        without();
        ends();
        endsOfYears();
        firstAlong();
        leastKind();
        fullPeopleAndThings();
        fullTexts();
        tapeByTwenties();
        steps();
        depth();
        faultLeavesAll();
        faultOfYearsLeavesAll();
        takenInPlace();
        latestFault();
        Check.end("TextEdgesTest");
    }

    /** A text that is taken, by an object of its own. */
    private static RustFamily taken(String text, int things) {
        RustFamily x = new RustFamily();
        Check.fine(x, "10 " + text, Texts.family(x, text), things);
        Check.due("12 no fault in " + text, x.fault(0), 0);
        Check.due("12 no place in " + text, x.fault(1), -1);
        return x;
    }

    private static void fault(String text, int kind, int place) {
        Check.fault(new RustFamily(), text, kind, place);
    }

    private static RustFamily takenYears(String text, int steps) {
        RustFamily x = Check.with(TWO);
        Check.fine(x, "11 " + text, Texts.years(x, text), steps);
        Check.due("12 no fault in years " + text, x.fault(0), 0);
        Check.due("12 no place in years " + text, x.fault(1), -1);
        return x;
    }

    private static void faultOfYears(String text, int kind, int place) {
        Check.faultOfYears(Check.with(TWO), text, kind, place);
    }

    /** Every byte by itself: two blanks, letters, digits, four signs; all others begin no TOKEN. */
    private static void bytes() {
        for (int b = 0; b < 256; b++) {
            String one = String.valueOf((char) b);
            if (b == 10 || b == 32) {
                taken(one, 0);
                takenYears(one, 0);
                taken("damp" + one + "4;", 0);
            } else {
                boolean begins = b >= 'a' && b <= 'z' || b >= '0' && b <= '9' || b >= ';' && b <= '>';
                fault(one, begins ? 2 : 1, 0);
                faultOfYears(one, begins ? 2 : 1, 0);
                fault("damp 4;" + one, begins ? 2 : 1, 7);
            }
        }
    }

    /** Where one SIGN is due, no other one, and no NUMBER that is as much as its byte. */
    private static void signs() {
        String[] parts = {"shows 4", "life 4", "damp 4", "breath 4", "person c age 4", "person c age 4 of",
            "thing c thick 4", "thing c thick 4 coat 4", "loves a b 4"};
        String[] steps = {"year 1", "oil b", "loves a b 1", "damp 1", "coat b 1", "mend b", "any", "when through b",
            "when rust b<1", "when shows a", "loop 1", "loop 1;end", "stop"};
        String[] others = {"<", ">", "=", "59", "any"};
        for (String other : others) {
            for (String part : parts) {
                fault(TWO + part + " " + other, 2, TWO.length() + part.length() + 1);
            }
            for (String step : steps) {
                faultOfYears(step + " " + other, 2, step.length() + 1);
            }
        }
        String[] tests = {";", "<", ">", "=", "59", "any", "b", "a"};
        for (String other : tests) {
            faultOfYears("when " + other + ";end;", 2, 5);
        }
        String[] compares = {";", "60", "61", "62", "any"};
        for (String other : compares) {
            faultOfYears("when rust b " + other + " 1;end;", 2, 12);
        }
    }

    /** Words by one letter unlike those that are due. */
    private static void wordsBeside() {
        String[] parts = {"shows 4;", "life 4;", "damp 4;", "breath 4;", "person c age 4;", "thing c thick 4;",
            "loves a b 4;"};
        for (String part : parts) {
            beside(TWO, part, part.indexOf(' '), false);
        }
        beside(TWO + "person c ", "age 4;", 3, false);
        beside(TWO + "person c age 4 ", "of;", 2, false);
        beside(TWO + "thing c ", "thick 4;", 5, false);
        beside(TWO + "thing c thick 4 ", "coat 4;", 4, false);
        String[] steps = {"year 1;", "oil b;", "loves a b 4;", "damp 1;", "coat b 1;", "mend b;", "any;",
            "when through b;end;", "loop 1;end;", "stop;"};
        for (String step : steps) {
            beside("", step, step.indexOf(step.indexOf(' ') < 0 ? ';' : ' '), true);
        }
        beside("when ", "through b;end;", 7, true);
        beside("when ", "rust b<1;end;", 4, true);
        beside("when ", "shows a;end;", 5, true);
        beside("loop 1;", "end;", 3, true);
    }

    private static void beside(String ahead, String text, int letters, boolean ofYears) {
        for (int i = 0; i <= letters; i++) {
            String behind = text.substring(i);
            String more = ahead + text.substring(0, i) + "z" + behind;
            faultBeside(more, ahead.length(), ofYears);
            if (i < letters) {
                faultBeside(ahead + text.substring(0, i) + "z" + behind.substring(1), ahead.length(), ofYears);
            }
            if (i < letters && letters > 1) {
                faultBeside(ahead + text.substring(0, i) + behind.substring(1), ahead.length(), ofYears);
            }
        }
    }

    private static void faultBeside(String text, int place, boolean ofYears) {
        if (ofYears) {
            faultOfYears(text, 2, place);
        } else {
            fault(text, 2, place);
        }
    }

    private static void digits() {
        Check.due("10 one digit", taken("damp 9;", 0).many(4), 9);
        Check.due("10 four digits", taken("damp 0009;", 0).many(4), 9);
        Check.due("10 four digits of nothing", taken("damp 0000;", 0).many(4), 0);
        fault("damp 00009;", 1, 5);
        fault("damp 9999;", 4, 5);
        fault("damp 10000;", 1, 5);
        fault("00009", 1, 0);
        fault("damp 4; 0000000000000000", 1, 8);
        fault("damp 4294967296;", 1, 5);
        fault("damp 9 9999;", 2, 7);
        fault("damp 9 99999;", 1, 7);
        takenYears("year 0020;", 1);
        faultOfYears("year 00020;", 1, 5);
        faultOfYears("loop 1; 10000", 1, 8);
    }

    private static void nameLetters() {
        taken("thing a thick 1;", 1);
        taken("thing abcdefgh thick 1;", 1);
        fault("thing abcdefghi thick 1;", 2, 6);
        taken("person z age 1;", 0);
        taken("person zyxwvuts age 1;", 0);
        fault("person zyxwvutsr age 1;", 2, 7);
        fault("person abcdefgh age 1;thing g thick 1;loves abcdefghi g 1;", 2, 44);
        fault("person a age 1;thing abcdefgh thick 1;loves a abcdefghi 1;", 2, 46);
        RustFamily x = Check.with("person abcdefgh age 1;thing ijklmnop thick 1;");
        Check.faultOfYears(x, "oil ijklmnopq;", 2, 4);
        Check.faultOfYears(x, "when shows abcdefghi;", 2, 11);
        Check.fine(x, "11 names of 8 letters", Texts.years(x, "oil ijklmnop;loves abcdefgh ijklmnop 1;"), 2);
        // Words of 9 letters and more elsewhere are only such as can't stand there.
        fault("abcdefghijklmnop", 2, 0);
        fault("person a abcdefghijklmnop", 2, 9);
        // Names that begin, or end, as kept words do.
        taken("thing show thick 1;thing showss thick 1;thing o thick 1;thing off thick 1;thing an thick 1;thing ny thick 1;",
            6);
    }

    private static void nameTaken() {
        fault("person a age 1;person a age 1;", 3, 22);
        fault("person a age 1;thing a thick 1;", 3, 21);
        fault("thing a thick 1;person a age 1;", 3, 23);
        fault("thing a thick 1;thing a thick 1;", 3, 22);
        taken("person a age 1;person aa age 1;thing ab thick 1;thing b thick 1;", 2);
        fault("thing abcdefgh thick 1;thing abcdefgh thick 1;", 3, 29);
        taken("thing abcdefgh thick 1;thing abcdefgi thick 1;thing bbcdefgh thick 1;", 3);
    }

    private static void toldAhead() {
        fault("loves a b 1;" + TWO, 3, 6);
        fault("person a age 4;loves a b 1;thing b thick 4;", 3, 23);
        fault("thing b thick 4;loves a b 1;person a age 4;", 3, 22);
        fault(TWO + "loves b a 1;", 3, 37);
        fault(TWO + "loves b b 1;", 3, 37);
        fault(TWO + "loves a a 1;", 3, 39);
        fault(TWO + "loves c b 1;", 3, 37);
        fault(TWO + "loves a c 1;", 3, 39);
        taken(TWO + "loves a b 1;", 1);
        faultOfYears("oil a;", 3, 4);
        faultOfYears("oil c;", 3, 4);
        faultOfYears("mend a;", 3, 5);
        faultOfYears("mend c;", 3, 5);
        faultOfYears("coat a 1;", 3, 5);
        faultOfYears("coat c 1;", 3, 5);
        faultOfYears("loves b b 1;", 3, 6);
        faultOfYears("loves c b 1;", 3, 6);
        faultOfYears("loves a a 1;", 3, 8);
        faultOfYears("loves a c 1;", 3, 8);
        faultOfYears("when through a;", 3, 13);
        faultOfYears("when through c;", 3, 13);
        faultOfYears("when rust a<1;", 3, 10);
        faultOfYears("when rust c<1;", 3, 10);
        faultOfYears("when shows b;", 3, 11);
        faultOfYears("when shows c;", 3, 11);
        RustFamily none = new RustFamily();
        Check.faultOfYears(none, "oil a;", 3, 4);
        none.forge(4);
        none.born(4, true);
        Check.faultOfYears(none, "oil a;", 3, 4);
        Check.faultOfYears(none, "when shows a;", 3, 11);
    }

    private static void range(String ahead, int least, int most, String behind) {
        taken(TWO + ahead + least + behind, 1 + (ahead.startsWith("thing") ? 1 : 0));
        taken(TWO + ahead + most + behind, 1 + (ahead.startsWith("thing") ? 1 : 0));
        fault(TWO + ahead + (most + 1) + behind, 4, TWO.length() + ahead.length());
        fault(TWO + ahead + 9999 + behind, 4, TWO.length() + ahead.length());
        if (least > 0) {
            fault(TWO + ahead + (least - 1) + behind, 4, TWO.length() + ahead.length());
        }
    }

    private static void numbers() {
        range("shows ", 0, 99, ";");
        range("life ", 1, 120, ";");
        range("damp ", 0, 9, ";");
        range("breath ", 0, 99, ";");
        range("person c age ", 0, 119, ";");
        range("person c age ", 0, 119, " of;");
        range("thing c thick ", 1, 999, ";");
        range("thing c thick ", 1, 999, " coat 1;");
        range("thing c thick 1 coat ", 0, 999, ";");
        range("loves a b ", 0, 9, ";");
        Check.due("10 shows 0", taken("shows 0;", 0).many(2), 0);
        Check.due("10 shows 99", taken("shows 99;", 0).many(2), 99);
        Check.due("10 life 1", taken("life 1;", 0).many(3), 1);
        Check.due("10 life 120", taken("life 120;", 0).many(3), 120);
        Check.due("10 damp 0", taken("damp 0;", 0).many(4), 0);
        Check.due("10 damp 9", taken("damp 9;", 0).many(4), 9);
        Check.due("10 breath 0", taken("breath 0;", 0).many(5), 0);
        Check.due("10 breath 99", taken("breath 99;", 0).many(5), 99);
        Check.due("10 age 0", taken("person a age 0;", 0).person(0, 0), 0);
        Check.due("10 age 119", taken("person a age 119;", 0).person(0, 0), 119);
        Check.due("10 thick 1", taken("thing a thick 1;", 1).thing(0, 0), 1);
        Check.due("10 thick 999", taken("thing a thick 999;", 1).thing(0, 0), 999);
        Check.due("10 coat 0", taken("thing a thick 1 coat 0;", 1).thing(0, 1), 0);
        Check.due("10 coat 999", taken("thing a thick 1 coat 999;", 1).thing(0, 1), 999);
        Check.due("10 loves 0", taken(TWO + "loves a b 0;", 1).love(0, 0), 0);
        Check.due("10 loves 9", taken(TWO + "loves a b 9;", 1).love(0, 0), 9);
    }

    private static void rangeOfYears(String ahead, int least, int most, String behind) {
        takenYears(ahead + least + behind, 1);
        takenYears(ahead + most + behind, 1);
        faultOfYears(ahead + (most + 1) + behind, 4, ahead.length());
        faultOfYears(ahead + 9999 + behind, 4, ahead.length());
        if (least > 0) {
            faultOfYears(ahead + (least - 1) + behind, 4, ahead.length());
        }
    }

    private static void numbersOfYears() {
        rangeOfYears("year ", 1, 20, ";");
        rangeOfYears("loves a b ", 0, 9, ";");
        rangeOfYears("damp ", 0, 9, ";");
        rangeOfYears("coat b ", 1, 99, ";");
        rangeOfYears("loop ", 1, 99, ";end;");
        rangeOfYears("when rust b < ", 0, 999, ";end;");
        rangeOfYears("when rust b > ", 0, 999, ";end;");
        rangeOfYears("when rust b = ", 0, 999, ";end;");
    }

    private static void without() {
        RustFamily x = taken("person a age 60;thing b thick 2;", 1);
        Check.due("10 shows without", x.many(2), 40);
        Check.due("10 life without", x.many(3), 70);
        Check.due("10 damp without", x.many(4), 4);
        Check.due("10 breath without", x.many(5), 3);
        Check.due("10 coat without", x.thing(0, 1), 0);
        Check.due("10 without of", x.person(0, 1), 0);
        Check.due("10 without love", x.love(0, 0), 0);
        x = taken("damp 7;", 0);
        Check.due("10 shows without, another told", x.many(2), 40);
        Check.due("10 life without, another told", x.many(3), 70);
        Check.due("10 breath without, another told", x.many(5), 3);
        x.rule(2, 1);
        x.rule(3, 2);
        x.rule(4, 3);
        x.rule(5, 4);
        Texts.family(x, "");
        Check.due("10 shows without, whatever was", x.many(2), 40);
        Check.due("10 life without, whatever was", x.many(3), 70);
        Check.due("10 damp without, whatever was", x.many(4), 4);
        Check.due("10 breath without, whatever was", x.many(5), 3);
    }

    /** The end of the text where something is due: 2, at the text's length. */
    private static void ends() {
        String[] parts = {"shows", "shows 4", "life", "life 4", "damp", "damp 4", "breath", "breath 4", "person",
            "person a", "person a age", "person a age 4", "person a age 4 of", "thing", "thing a", "thing a thick",
            "thing a thick 4", "thing a thick 4 coat", "thing a thick 4 coat 4"};
        for (String part : parts) {
            fault(part, 2, part.length());
            fault(part + " \n ", 2, part.length() + 3);
            fault("damp 4;".replace("damp", part.startsWith("damp") ? "life" : "damp") + part, 2, 7 + part.length());
        }
        String[] loves = {"loves", "loves a", "loves a b", "loves a b 4"};
        for (String part : loves) {
            fault(TWO + part, 2, TWO.length() + part.length());
        }
        // Bytes behind the first n are not of the text.
        RustFamily x = new RustFamily();
        Texts.feed(x, "damp 4;damp 5;");
        Check.refused(x, "10 cut ahead of its end", x.family(6), 10);
        Check.due("12 the text's length, not the tape's", x.fault(1), 6);
        Texts.feed(x, "damp 5;damp 6;");
        Check.fine(x, "10 cut behind its end", x.family(7), 0);
        Check.due("10 the first alone", x.many(4), 5);
        Texts.feed(x, "damp 6;damp");
        Check.refused(x, "10 cut in a word", x.family(9), 10);
        Check.due("12 the word that is left", x.fault(1), 7);
        Texts.feed(x, "damp 6;");
        Check.refused(x, "10 cut ahead of a word's last letter", x.family(3), 10);
        Check.due("12 the word without it", x.fault(0), 2);
        Check.due("12 the word without it stands there", x.fault(1), 0);
        Texts.feed(x, "damp 12345;");
        Check.refused(x, "10 cut behind four digits", x.family(9), 10);
        Check.due("12 four digits", x.fault(0), 4);
        Texts.feed(x, "damp 10;");
        Check.refused(x, "10 cut behind one digit", x.family(6), 10);
        Check.due("12 one digit, then the end", x.fault(0), 2);
        Check.due("12 one digit, then the end's place", x.fault(1), 6);
    }

    private static void endsOfYears() {
        String[] parts = {"year", "year 1", "oil", "oil b", "loves", "loves a", "loves a b", "loves a b 1", "damp",
            "damp 1", "coat", "coat b", "coat b 1", "mend", "mend b", "any", "when", "when through", "when through b",
            "when rust", "when rust b", "when rust b <", "when rust b < 1", "when shows", "when shows a", "loop",
            "loop 1", "stop", "loop 1;", "loop 1;any", "loop 1;any;", "loop 1;any;end", "when shows a;",
            "when shows a;loop 1;end;"};
        for (String part : parts) {
            faultOfYears(part, 2, part.length());
            faultOfYears(part + "\n", 2, part.length() + 1);
            faultOfYears("any;" + part, 2, 4 + part.length());
        }
        faultOfYears("end;", 2, 0);
        faultOfYears("any;end;", 2, 4);
        faultOfYears("loop 1;end;end;", 2, 11);
        faultOfYears("when shows a;end;any;end;", 2, 21);
        faultOfYears("loop 1;end any;", 2, 11);
    }

    private static void firstAlong() {
        // The later one is of a lesser kind each time.
        fault("damp 1;damp 2;damp 10; !", 5, 7);
        fault("damp 10; person person ?", 4, 5);
        fault("person a age 1;person a age 120;", 3, 22);
        fault("person a age 120;person a age 1;", 4, 13);
        fault("person person age 120; 12345", 2, 7);
        faultOfYears("oil c; year !", 3, 4);
        faultOfYears("year 0; year !", 4, 5);
        faultOfYears("loop 1;loop 1;loop 1;loop 0;", 7, 21);
        faultOfYears("any;".repeat(30) + "any 12345;", 6, 120);
    }

    /** Of one TOKEN the least kind. */
    private static void leastKind() {
        // It begins no TOKEN, and could not stand there either.
        fault("damp 4 12345", 1, 7);
        fault("thing ! thick 1;", 1, 6);
        // It can't stand there, and is no NAME told ahead, or one that is taken.
        fault("person a age 1;loves age a 1;", 2, 21);
        fault("person a age 1;person 4 age 1;", 2, 22);
        faultOfYears("oil end;", 2, 4);
        faultOfYears("oil abcdefghi;", 2, 4);
        // It can't stand there, and its number can't be.
        fault("person 9999 age 1;", 2, 7);
        // A 31st STEP, and one within three others.
        faultOfYears("any;".repeat(27) + "loop 1;loop 1;loop 1;loop 1;", 6, 129);
        faultOfYears("any;".repeat(27) + "loop 1;loop 1;loop 1;when shows a;", 6, 129);
        faultOfYears("any;".repeat(26) + "loop 1;loop 1;loop 1;loop 1;", 7, 125);
        // A word that is no STEP can't stand there, wherever.
        faultOfYears("any;".repeat(30) + "foo;", 2, 120);
        faultOfYears("any;".repeat(30) + "end;", 2, 120);
        faultOfYears("any;".repeat(30) + "12345;", 1, 120);
    }

    private static void fullPeopleAndThings() {
        String six = "person a age 1;person b age 1;person c age 1;person d age 1;person e age 1;person f age 1;";
        String eight = "thing g thick 1;thing h thick 1;thing i thick 1;thing j thick 1;thing k thick 1;thing l thick 1;"
            + "thing m thick 1;thing n thick 1;";
        RustFamily x = taken(six + eight + "loves f n 9;", 8);
        Check.due("10 six people", x.many(0), 6);
        Check.due("10 the sixth loves the eighth", x.love(5, 7), 9);
        fault(six + "person g age 1;", 6, six.length());
        fault(eight + "thing o thick 1;", 6, eight.length());
        fault(six + eight + "person o age 1;", 6, six.length() + eight.length());
        fault(six + eight + "thing o thick 1;", 6, six.length() + eight.length());
        // At that WORD, whatever stands behind it.
        fault(six + "person a age 120;", 6, six.length());
        fault(six + "person", 6, six.length());
        fault(eight + "thing !", 6, eight.length());
        taken(six + "thing g thick 1;", 1);
        taken(eight + "person a age 1;", 8);
    }

    private static void fullTexts() {
        String blanks = " ".repeat(900);
        RustFamily x = new RustFamily();
        Check.fine(x, "10 a text of 900", Texts.family(x, blanks.substring(7) + "damp 8;"), 0);
        Check.due("10 to its last byte", x.many(4), 8);
        Check.fault(x, blanks.substring(6) + "damp 8", 2, 900);
        Check.fault(x, blanks.substring(1) + "!", 1, 899);
        x = Check.with(TWO);
        Check.fine(x, "11 a text of 300", Texts.years(x, blanks.substring(607) + "damp 8;"), 1);
        x.live(0);
        Check.due("11 to its last byte", x.many(4), 8);
        Check.faultOfYears(x, blanks.substring(606) + "damp 8", 2, 300);
        Check.faultOfYears(x, blanks.substring(601) + "!", 1, 299);
        Texts.feed(x, blanks.substring(599));
        Check.refused(x, "11 a text of 301", x.years(301), 5);
        Check.fine(x, "11 300 of 301", x.years(300), 0);
        Texts.feed(x, blanks);
        Check.refused(x, "11 a text of 900", x.years(900), 5);
        Check.fine(x, "10 it is there yet", x.family(900), 0);
    }

    private static void tapeByTwenties() {
        RustFamily x = new RustFamily();
        for (int i = 1; i <= 45; i++) {
            Check.due("9 how many " + i, x.feed(-1, -1, -1, -1, -1), 20 * i);
        }
        Check.due("9 920 would be more than 900", x.feed(-1, -1, -1, -1, -1), RustFamily.NONE);
        Check.due("9 nor another time", x.feed(0, 0, 0, 0, 0), RustFamily.NONE);
        Check.refused(x, "10 its bytes are no blanks", x.family(900), 10);
        Check.due("9 empty behind it", x.feed(0, 0, 0, 0, 0), 20);
        x.years(20);
        Check.due("9 empty behind years, too", x.feed(0, 0, 0, 0, 0), 20);
        x.family(21);
        Check.due("9 not behind a number that can't be", x.feed(0, 0, 0, 0, 0), 40);
        x.years(41);
        Check.due("9 nor behind one of years", x.feed(0, 0, 0, 0, 0), 60);
        x.family(0);
        Check.due("9 empty behind a text of nothing", x.feed(0, 0, 0, 0, 0), 20);
        x.years(0);
        Check.due("9 empty behind years of nothing", x.feed(0, 0, 0, 0, 0), 20);
        // The highest byte of each int first, its sign bit, too.
        RustFamily y = new RustFamily();
        y.feed(0x80202020, 0x20202020, 0x20202020, 0x20202020, 0x20202020);
        y.family(20);
        Check.due("9 the highest byte", y.fault(1), 0);
        y.feed(0x20202020, 0x20202020, 0x20202020, 0x20202020, 0x20202080);
        y.family(20);
        Check.due("9 the lowest byte of the last", y.fault(1), 19);
    }

    private static void steps() {
        takenYears("any;".repeat(30), 30);
        faultOfYears("any;".repeat(31), 6, 120);
        takenYears("loop 1;end;".repeat(27), 27);
        takenYears("any;".repeat(29) + "loop 1;end;", 30);
        takenYears("loop 1;" + "any;".repeat(29) + "end;", 30);
        faultOfYears("loop 1;" + "any;".repeat(29) + "end;any;", 6, 127);
        faultOfYears("loop 1;" + "any;".repeat(30) + "end;", 6, 123);
        // At its WORD, whatever stands behind it.
        faultOfYears("any;".repeat(30) + "year 0;", 6, 120);
        faultOfYears("any;".repeat(30) + "oil c;", 6, 120);
        faultOfYears("any;".repeat(30) + "stop", 6, 120);
        faultOfYears("any;".repeat(30) + "when", 6, 120);
        faultOfYears("any;".repeat(30) + "loop", 6, 120);
        taken("", 0);
        takenYears("", 0);
    }

    private static void depth() {
        takenYears("loop 1;loop 1;loop 1;any;end;end;end;", 4);
        takenYears("when shows a;when shows a;when shows a;any;end;end;end;", 4);
        faultOfYears("loop 1;loop 1;loop 1;loop 1;end;end;end;end;", 7, 21);
        faultOfYears("when shows a;when shows a;when shows a;when shows a;", 7, 39);
        faultOfYears("loop 1;when shows a;loop 1;when", 7, 27);
        faultOfYears("loop 1;when shows a;when shows a;loop", 7, 33);
        // What was read of YEARS with a FAULT is not within those that are read next.
        RustFamily x = Check.with(TWO);
        Check.faultOfYears(x, "loop 1;loop 1;loop 1;loop 1;", 7, 21);
        Check.fine(x, "11 three again", Texts.years(x, "loop 1;loop 1;loop 1;end;end;end;"), 3);
        Check.faultOfYears(x, "loop 1;any;", 2, 11);
        Check.fine(x, "11 none is within", Texts.years(x, "any;any;"), 2);
        Check.faultOfYears(x, "end;", 2, 0);
        // What has its end is not within it any more.
        takenYears("loop 1;loop 1;loop 1;end;loop 1;end;end;loop 1;loop 1;end;end;end;", 6);
        faultOfYears("loop 1;loop 1;loop 1;end;loop 1;loop 1;", 7, 32);
    }

    /** Of each kind: the FAMILY that was there stays, with all that became of it; only the tape and the FAULT change. */
    private static void faultLeavesAll() {
        String[] texts = {"!", "damp", "loves a b 1;", "damp 10;", "damp 1;damp 1;",
            "thing a thick 1;thing b thick 1;thing c thick 1;thing d thick 1;thing e thick 1;thing f thick 1;"
            + "thing g thick 1;thing h thick 1;thing i thick 1;"};
        int[] places = {0, 4, 6, 5, 7, 128};
        String kept = Probe.kept(Scenes.mixed());
        for (int i = 0; i < texts.length; i++) {
            RustFamily x = Scenes.mixed();
            clearTape(x);
            Check.fault(x, texts[i], i + 1, places[i]);
            Check.same("10 the old one stays: " + texts[i], Probe.kept(x), kept);
            Check.due("10 the tape is empty: " + texts[i], x.feed(0, 0, 0, 0, 0), 20);
        }
    }

    /** A text that is a FAULT takes what is on the tape, and leaves all else as it is. */
    private static void clearTape(RustFamily x) {
        Check.refused(x, "11 a word that can't stand there", x.years(3), 10);
    }

    private static void faultOfYearsLeavesAll() {
        String[] texts = {"!", "year", "oil abe;", "year 0;", "any;".repeat(31), "loop 1;loop 1;loop 1;loop 1;"};
        int[] kinds = {1, 2, 3, 4, 6, 7};
        int[] places = {0, 4, 4, 5, 120, 21};
        String kept = Probe.kept(Scenes.mixed());
        for (int i = 0; i < texts.length; i++) {
            RustFamily x = Scenes.mixed();
            clearTape(x);
            Check.faultOfYears(x, texts[i], kinds[i], places[i]);
            Check.same("11 the old ones stay: " + texts[i], Probe.kept(x), kept);
            Check.due("11 the tape is empty: " + texts[i], x.feed(0, 0, 0, 0, 0), 20);
        }
    }

    private static void takenInPlace() {
        RustFamily x = Scenes.mixed();
        clearTape(x);
        Check.fine(x, "10 another", Texts.family(x, "life 1;person a age 119 of;thing b thick 1 coat 1;loves a b 9;"), 1);
        Check.due("10 it is year 0", x.many(6), 0);
        Check.due("10 all live, whatever their age", x.many(7), 1);
        Check.due("10 it shows", x.many(8), 1);
        Check.due("10 nothing is through", x.many(9), 0);
        Check.due("10 nothing has oil", x.many(10), 0);
        Check.due("10 nothing has rust", x.many(11), 0);
        Check.refused(x, "10 there are no years told", x.live(0), 8);
        Check.due("10 what was lived is told yet", x.lived(1), 1);
        Texts.years(x, "year 1;");
        Texts.family(x, "");
        Check.refused(x, "10 no years by the next", x.live(0), 8);
        Texts.family(x, "");
        Check.refused(x, "10 no years by the one behind it", x.live(0), 8);
        Check.refused(x, "51 nor mean", x.mean(0, 1), 8);
        Texts.family(x, "life 1;person a age 119 of;thing b thick 1 coat 1;loves a b 9;");
        Check.fine(x, "18 he dies in a year", x.year(1), 0);
        Check.due("18 dead", x.many(7), 0);
    }

    private static void latestFault() {
        RustFamily x = new RustFamily();
        int[] what = {-1, 2, Integer.MIN_VALUE, Integer.MAX_VALUE};
        for (int n : what) {
            Check.due("12 others " + n, x.fault(n), RustFamily.NONE);
        }
        Check.due("12 ahead of any", x.fault(0), RustFamily.NONE);
        Check.due("12 ahead of any, its place", x.fault(1), RustFamily.NONE);
        Check.fault(x, "damp 10;", 4, 5);
        for (int n : what) {
            Check.due("12 others, with one there " + n, x.fault(n), RustFamily.NONE);
        }
        Check.refused(x, "10 a number that can't be", x.family(1), 5);
        Check.due("12 tells nothing new", x.fault(0), 4);
        Check.refused(x, "11 a number that can't be", x.years(1), 5);
        Check.due("12 tells nothing new of years", x.fault(1), 5);
        Check.fine(x, "11 years without one", x.years(0), 0);
        Check.due("12 without one", x.fault(0), 0);
        Check.due("12 no place without one", x.fault(1), RustFamily.NONE);
        Check.faultOfYears(x, "year 0;", 4, 5);
        Check.fine(x, "10 a family without one", x.family(0), 0);
        Check.due("12 the latest is without one", x.fault(0), 0);
        Check.due("12 the latest has no place", x.fault(1), RustFamily.NONE);
    }
}
