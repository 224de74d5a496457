import java.util.Random;

/** Runs of calls by chance, each made to RustFamily and to the plain Model: all answers must be alike. */
public final class CompareTest {
    private static final String[] NAMES = {"abe", "ben", "cyr", "dan", "eve", "fay", "gate", "bell", "knife", "spoon",
        "pot", "saw", "axe", "longname", "ninelette"};
    private static final String[] WORDS = {"shows", "life", "damp", "breath", "person", "age", "of", "thing", "thick",
        "coat", "loves", "year", "oil", "mend", "any", "when", "through", "rust", "loop", "end", "stop", ";", "<", ">",
        "=", "0", "7", "12345", "!", "\n", "A"};

    /** By so many calls more sameState() asks for what a FAMILY's text, or one call, has brought. */
    private static final int MOST_STATE_MORE = 150;

    private final Random chance;
    private final Pair pair = new Pair();

    private CompareTest(long seed) {
        chance = new Random(seed);
    }

    public static void main(String[] args) {
        int runs = args.length > 0 ? Integer.parseInt(args[0]) : 4000;
        int from = args.length > 1 ? Integer.parseInt(args[1]) : 0;
        for (int i = from; i < from + runs; i++) {
            CompareTest test = new CompareTest(i);
            if (!test.run()) {
                System.out.println("run " + i + ": " + test.pair.calls);
                System.exit(1);
            }
        }
        System.out.println(runs + " runs by chance answered as the model does");
    }

    private int n(int below) {
        return chance.nextInt(below);
    }

    /** Mostly from the range, now and then beside it or far from it. */
    private int in(int least, int most) {
        int what = n(40);
        return what == 0 ? least - 1 : what == 1 ? most + 1 : what == 2 ? chance.nextInt()
            : what == 3 ? Integer.MIN_VALUE : what == 4 ? Integer.MAX_VALUE
            : what < 8 ? least : what < 11 ? most : least + n(most - least + 1);
    }

    private String name() {
        return NAMES[n(NAMES.length)];
    }

    private String blank() {
        return n(12) == 0 ? "\n " : " ";
    }

    private String familyText() {
        StringBuilder text = new StringBuilder();
        int people = n(4) == 0 ? n(8) : 2 + n(5);
        int things = n(4) == 0 ? n(10) : 2 + n(7);
        String[] rules = {"shows " + n(60), "life " + (1 + n(120)), "damp " + n(10), "breath " + n(20)};
        for (String rule : rules) {
            if (n(3) > 0) {
                text.append(rule).append(n(4) == 0 ? " ; " : ";");
            }
        }
        for (int i = 0; i < people; i++) {
            text.append("person p").append((char) ('a' + i)).append(" age ").append(n(n(4) == 0 ? 120 : 60))
                .append(n(4) > 0 ? " of" : "").append(";").append(n(5) == 0 ? blank() : "");
        }
        for (int i = 0; i < things; i++) {
            text.append("thing t").append((char) ('a' + i)).append(" thick ").append(1 + n(n(3) == 0 ? 999 : 40))
                .append(n(3) == 0 ? " coat " + n(n(3) == 0 ? 1000 : 20) : "").append(";");
        }
        int loves = people > 0 && things > 0 ? n(30) : 0;
        for (int i = 0; i < loves && text.length() < 880; i++) {
            text.append("loves p").append((char) ('a' + n(people))).append(" t").append((char) ('a' + n(things)))
                .append(" ").append(n(n(2) == 0 ? 10 : 4)).append(";");
        }
        return text.toString();
    }

    private String step(int depth) {
        String t = "t" + (char) ('a' + n(Math.max(1, pair.plain.s.things.size())));
        String p = "p" + (char) ('a' + n(Math.max(1, pair.plain.s.people.size())));
        switch (n(depth < 3 || n(8) == 0 ? 13 : 8)) {
            case 0: case 1: return "year " + (1 + n(n(3) == 0 ? 20 : 3)) + ";";
            case 2: return "oil " + t + ";";
            case 3: return "loves " + p + " " + t + " " + n(10) + ";";
            case 4: return "damp " + n(10) + ";";
            case 5: return "coat " + t + " " + (1 + n(99)) + ";";
            case 6: return "mend " + t + ";";
            case 7: return n(8) == 0 ? "stop;" : "any;";
            case 8: return "when through " + t + ";" + steps(depth + 1) + "end;";
            case 9: return "when rust " + t + "<>=".charAt(n(3)) + n(n(2) == 0 ? 30 : 3) + ";" + steps(depth + 1) + "end;";
            case 10: return "when shows " + p + ";" + steps(depth + 1) + "end;";
            default: return "loop " + (1 + n(n(3) == 0 ? 99 : 4)) + ";" + steps(depth + 1) + "end;";
        }
    }

    private String steps(int depth) {
        StringBuilder text = new StringBuilder();
        for (int i = n(depth == 0 ? 12 : 4); i > 0; i--) {
            text.append(step(depth)).append(n(6) == 0 ? blank() : "");
        }
        for (int i = n(8) == 0 ? n(32) : 0; i > 0; i--) {
            text.append("any;");
        }
        return text.toString();
    }

    private String spoiled(String text) {
        StringBuilder spoiled = new StringBuilder(text);
        for (int i = n(3); i >= 0; i--) {
            int at = n(spoiled.length() + 1);
            int what = n(8);
            if (what > 5) {
                changeNumber(spoiled, at);
            } else if (what == 0) {
                spoiled.insert(at, (char) n(256));
            } else if (what == 1) {
                spoiled.insert(at, " " + WORDS[n(WORDS.length)] + " ");
            } else if (what == 2) {
                spoiled.insert(at, " " + name() + " ");
            } else if (what == 3) {
                spoiled.setLength(at);
            } else if (what == 4 && at < spoiled.length()) {
                spoiled.deleteCharAt(at);
            } else {
                int semicolon = spoiled.indexOf(";", at);
                spoiled.insert(semicolon < 0 ? 0 : semicolon + 1, n(2) == 0 ? WORDS[n(WORDS.length)] + ";" : familyText());
            }
        }
        return spoiled.toString();
    }

    private void changeNumber(StringBuilder text, int from) {
        for (int i = from; i < text.length(); i++) {
            if (Character.isDigit(text.charAt(i))) {
                text.insert(i, n(100));
                return;
            }
        }
    }

    private boolean tellText(String call, String told, int limit) {
        String text = n(3) == 0 ? spoiled(told) : told;
        text = text.length() > limit ? text.substring(0, limit) : text;
        int length = n(15) == 0 ? in(0, text.length()) : text.length();
        return pair.feedText(text) && pair.same(call, length);
    }

    /** As many calls as an object is used for: the last ones ask for all of the state. */
    private boolean run() {
        boolean same = n(20) != 0 || growOld();
        for (int i = 0; same && hasRoom(0); i++) {
            same = i == 0 && pair.plain.s.year == 0 || n(25) == 0 ? tellText("family", familyText(), 900)
                : i == 1 || n(20) == 0 ? tellText("years", steps(0), 320)
                : one();
            if (same && n(15) == 0 && hasRoom(pair.callsOfState())) {
                same = pair.sameState();
            }
        }
        return same && pair.sameState();
    }

    /** A text and its calls are fewer than sixty. */
    private boolean hasRoom(int more) {
        return pair.left() > pair.callsOfState() + more + 60 + MOST_STATE_MORE;
    }

    /** To YEAR 9,900 and somewhat more, so that those beyond 9,999 are come to. */
    private boolean growOld() {
        boolean same = tellText("family", familyText(), 900);
        for (int i = 0; i < 100 && same; i++) {
            same = pair.same("year", 99);
        }
        return same && pair.same("year", 1 + n(99));
    }

    private int person() {
        return in(0, Math.max(0, pair.plain.s.people.size() - 1));
    }

    private int thing() {
        return in(0, Math.max(0, pair.plain.s.things.size() - 1));
    }

    private int peopleSet() {
        return in(0, (1 << pair.plain.s.people.size()) - 1);
    }

    private int tray() {
        return in(0, 3);
    }

    private boolean one() {
        switch (n(10)) {
            case 0: return traysCall();
            case 1: case 2: case 3: return doneCall();
            case 4: case 5: return aheadCall();
            case 6: return seenCall();
            case 7: return keepCall();
            case 8: return gameCall();
            default: return liveCall();
        }
    }

    private boolean traysCall() {
        switch (n(6)) {
            case 0: return pair.same("tray", tray(), n(2) == 0 ? 1 : in(0, 3), n(3) == 0 ? in(0, 60) : in(0, 12));
            case 1: return pair.same("write", tray(), in(0, 12), n(2) == 0 ? chance.nextLong() : (long) n(300));
            case 2: return pair.same("read", tray(), in(0, 12));
            case 3: return pair.same("copyRust", tray());
            case 4: return pair.same("fault", in(0, 1));
            default: return pair.same("pour", tray(), in(0, 6), tray(), in(0, 6), in(0, 6));
        }
    }

    private boolean doneCall() {
        switch (n(12)) {
            case 0: return pair.same("year", n(5) == 0 ? in(1, 99) : in(1, 3));
            case 1: case 2: return pair.same("dote", person(), thing(), in(0, 9));
            case 3: return pair.same("oil", thing());
            case 4: return pair.same("coat", thing(), n(4) == 0 ? in(1, 999) : in(1, 20));
            case 5: return pair.same("mend", thing());
            case 6: return pair.same("breathe", thing());
            case 7: return n(3) != 0 || pair.same("forge", n(2) == 0 ? in(1, 999) : in(1, 30));
            case 8: return n(3) != 0 || pair.same("born", in(0, 119), chance.nextBoolean());
            case 9: return pair.same("rule", in(2, 5), in(0, n(2) == 0 ? 9 : 120));
            case 10: return pair.same("mark");
            default: return pair.same("back");
        }
    }

    private boolean aheadCall() {
        switch (n(10)) {
            case 0: return pair.same("rustIn", thing(), in(0, 200));
            case 1: return pair.same("throughIn", thing());
            case 2: return pair.same("firstThrough");
            case 3: return pair.same("throughBy", in(0, 200));
            case 4: return pair.same("showsIn", person());
            case 5: return pair.same("diesIn", person());
            case 6: return pair.same("worst", in(0, 50));
            case 7: return pair.same("jars", thing(), in(0, 8));
            case 8: return pair.same("jarsFor", in(0, (1 << pair.plain.s.things.size()) - 1), in(0, 8));
            default: return pair.same("less", person(), thing(), n(2) == 0 ? in(0, 50) : in(0, 5));
        }
    }

    private boolean seenCall() {
        int tray = n(4);
        boolean same = pair.same("tray", tray, 1 + n(3), 2 + n(8));
        int lovers = Integer.bitCount(pair.plain.many(8));
        int sum = n(3 * lovers + 1);
        for (int i = 0; i < 4; i++) {
            int damp = in(0, 9);
            same &= pair.same("write", tray, 2 * i, (long) damp);
            same &= pair.same("write", tray, 2 * i + 1, n(12) == 0 ? (long) in(0, 40)
                : n(40) == 0 ? -1L - n(3) : (long) (sum * damp / 4));
        }
        int n = in(0, 4);
        return same && pair.same("seen", tray, n) && pair.same("sure", person(), tray, n) && pair.same("ask", tray, n)
            && pair.same("seen", tray(), in(0, 21)) && pair.same("sure", person(), tray(), n)
            && pair.same("ask", tray(), n);
    }

    private boolean keepCall() {
        int set = peopleSet();
        switch (n(4)) {
            case 0: return pair.same("keeping", set);
            case 1: return pair.same("keeps", set, person());
            case 2: return pair.same("stable", set, person());
            default: return pair.same("stables", set);
        }
    }

    private boolean gameCall() {
        switch (n(5)) {
            case 0: return pair.same("game", thing(), thing(), in(0, 4));
            case 1: return pair.same("moveOf", thing(), thing(), in(1, 4));
            case 2: return pair.same("lasts", thing(), yearsOfOdds());
            case 3: return pair.same("thickFor", thing(), yearsOfOdds(), in(0, 10));
            default: return pair.same("blame", person());
        }
    }

    /** The model tries all ways: a million of them only now and then. */
    private int yearsOfOdds() {
        int n = in(0, 6);
        return n > 2 && n <= 6 && n(n == 3 ? 3 : n == 4 ? 40 : n == 5 ? 400 : 2000) != 0 ? n(3) : n;
    }

    private boolean liveCall() {
        switch (n(4)) {
            case 0: case 1: return pair.same("live", in(0, 9999));
            case 2: return pair.same("lived", in(0, 4));
            default: return pair.same("mean", in(0, 9999), in(1, 20));
        }
    }
}
