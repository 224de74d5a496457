import java.util.function.ToLongFunction;

/** Promise 2: each call that is taken leaves STATUS 0, whatever it was ahead; those that have none leave it as it is. */
public final class StatusTest {
    private StatusTest() {
    }

    public static void main(String[] args) {
        trays();
        texts();
        told();
        done();
        ahead();
        choices();
        lives();
        withoutOne();
        Check.end("StatusTest");
    }

    /** The call is made twice: behind one that was refused, and behind itself, as far as it is taken. */
    private static void zero(String what, ToLongFunction<RustFamily> call) {
        RustFamily x = Scenes.mixed();
        Check.refused(x, what + ": ahead of it", x.many(-1), 5);
        Check.due(what + ": is taken", call.applyAsLong(x) != RustFamily.NONE, true);
        Check.due(what + ": STATUS 0", x.status(), 0);
    }

    private static long is(boolean answer) {
        return answer ? 1 : RustFamily.NONE;
    }

    private static void trays() {
        zero("5", x -> is(x.tray(3, 0, 1)));
        zero("6", x -> is(x.write(0, 0, 1)));
        zero("7", x -> x.read(0, 0));
        zero("8", x -> is(x.pour(0, 0, 1, 0, 1)));
        zero("17", x -> {
            x.tray(3, 1, 3);
            x.many(-1);
            return x.copyRust(3);
        });
    }

    private static void texts() {
        zero("10", x -> x.family(18));
        zero("10 of nothing", x -> x.family(0));
        zero("11 of nothing", x -> x.years(0));
        zero("11", x -> {
            x.family(0);
            Texts.feed(x, "any;");
            x.many(-1);
            return x.years(4);
        });
    }

    private static void told() {
        for (int i = 0; i < 12; i++) {
            int what = i;
            zero("13 what " + i, x -> x.many(what));
        }
        for (int i = 0; i < 5; i++) {
            int what = i;
            zero("14 what " + i, x -> x.person(0, what));
        }
        for (int i = 0; i < 7; i++) {
            int what = i;
            zero("15 what " + i, x -> x.thing(0, what));
        }
        zero("16", x -> x.love(0, 0));
    }

    private static void done() {
        zero("18", x -> x.year(1));
        zero("19", x -> x.dote(0, 0, 9));
        zero("20", x -> x.oil(0));
        zero("21", x -> x.coat(0, 1));
        zero("22", x -> x.mend(0));
        zero("23", x -> x.breathe(0));
        zero("24", x -> x.forge(1));
        zero("25", x -> x.born(0, true));
        for (int i = 2; i < 6; i++) {
            int what = i;
            zero("26 what " + i, x -> is(x.rule(what, 1)));
        }
    }

    private static void ahead() {
        zero("27", x -> x.rustIn(0, 1));
        zero("28", x -> x.throughIn(1));
        zero("29", RustFamily::firstThrough);
        zero("30", x -> x.throughBy(1));
        zero("31", x -> x.showsIn(0));
        zero("32", x -> x.diesIn(0));
        zero("33", x -> x.worst(1));
        zero("34", x -> x.jars(0, 1));
        zero("35", x -> x.jarsFor(5, 1));
        zero("36", x -> x.less(0, 0, 1));
    }

    private static void choices() {
        zero("37", x -> x.seen(0, 1));
        zero("38", x -> x.sure(0, 0, 1));
        zero("39", x -> x.ask(0, 0));
        zero("40", x -> x.keeping(5));
        zero("41", x -> x.keeps(5, 2));
        zero("42", x -> x.stable(1, 0));
        zero("43", x -> x.stables(7));
        zero("45", x -> x.moveOf(0, 2, 2));
        zero("46", x -> is(x.lasts(0, 2)));
        zero("47", x -> x.thickFor(0, 2, 5));
        zero("48", x -> is(x.blame(0)));
        // GAME may be -1, and be taken: STATUS tells.
        RustFamily x = Check.with("breath 1;thing b thick 9;thing c thick 9;");
        x.breathe(0);
        x.many(-1);
        Check.fine(x, "44 -1 that is so", x.game(0, 1, 0), -1);
        Check.refused(x, "44 -1 that is none", x.game(0, 0, 0), 5);
        x.tray(0, 0, 1);
        x.write(0, 0, -1);
        x.many(-1);
        Check.fine(x, "7 -1 that is so", x.read(0, 0), -1);
        Check.refused(x, "7 -1 that is none", x.read(0, 1), 4);
    }

    private static void lives() {
        zero("49", x -> x.live(0));
        for (int i = 0; i < 5; i++) {
            int what = i;
            zero("50 what " + i, x -> x.lived(what));
        }
        zero("51", x -> is(x.mean(0, 1)));
        zero("52", RustFamily::mark);
        zero("53", RustFamily::back);
    }

    private static void withoutOne() {
        RustFamily x = Scenes.mixed();
        Check.refused(x, "2 ahead", x.love(9, 9), 2);
        x.top();
        Check.due("3 has none", x.status(), 2);
        x.bottom();
        Check.due("4 has none", x.status(), 2);
        x.fault(0);
        x.fault(1);
        x.fault(2);
        Check.due("12 has none", x.status(), 2);
        Check.due("9 twenty more", x.feed(0, 0, 0, 0, 0), 40);
        Check.due("9 has none", x.status(), 2);
        x.status();
        Check.due("2 has none", x.status(), 2);
        RustFamily y = Scenes.full();
        Check.refused(y, "2 ahead, full", y.love(9, 9), 2);
        Check.due("9 above 900", y.feed(0, 0, 0, 0, 0), RustFamily.NONE);
        Check.due("9 has none, above 900", y.status(), 2);
    }
}
