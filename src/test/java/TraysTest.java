/** Promises 1 to 8: a new object, STATUS, the FRACTION, TRAYS. */
public final class TraysTest {
    private TraysTest() {
    }

    public static void main(String[] args) {
        newObject();
        statusOfTheLatest();
        fractionOfTheLatest();
        tray();
        write();
        read();
        pour();
        pourStatus();
        Check.end("TraysTest");
    }

    private static void newObject() {
        RustFamily x = new RustFamily();
        Check.due("1 status", x.status(), 0);
        Check.fraction(x, "1 fraction", 0, 1);
        Check.due("1 fault 0", x.fault(0), -1);
        Check.due("1 fault 1", x.fault(1), -1);
        for (int i = 0; i < 4; i++) {
            Check.refused(x, "1 tray " + i + " is missing", x.read(i, 0), 3);
        }
        int[] due = {0, 0, 40, 70, 4, 3, 0, 0, 0, 0, 0, 0};
        for (int i = 0; i < due.length; i++) {
            Check.fine(x, "1 many " + i, x.many(i), due[i]);
        }
        Check.refused(x, "1 no years", x.live(0), 8);
        Check.refused(x, "1 not lived", x.lived(0), 8);
        Check.refused(x, "1 no marks", x.back(), 8);
        Check.refused(x, "1 an empty tape", x.family(1), 5);
        Check.fine(x, "1 a text of nothing", x.family(0), 0);
    }

    private static void statusOfTheLatest() {
        RustFamily x = new RustFamily();
        x.many(12);
        Check.due("2 refused", x.status(), 5);
        x.fault(0);
        x.fault(9);
        x.top();
        x.bottom();
        x.feed(0, 0, 0, 0, 0);
        Check.due("2 of those that have none", x.status(), 5);
        x.love(0, 0);
        Check.due("2 the latest", x.status(), 2);
        x.many(0);
        Check.due("2 fine again", x.status(), 0);
    }

    private static void fractionOfTheLatest() {
        RustFamily x = Check.with(Check.FAMILY);
        Check.fine(x, "3 blame", x.blame(0));
        Check.fraction(x, "3 of 12 points 6", 1, 2);
        Check.refused(x, "3 blame of nobody", x.blame(9), 2);
        Check.fraction(x, "4 a refused call leaves it", 1, 2);
        x.many(0);
        Check.fraction(x, "4 other calls leave it", 1, 2);
        Check.fine(x, "4 blame of one in whom it does not show", x.blame(1));
        Check.fraction(x, "4 nothing is 0 by 1", 0, 1);
    }

    private static void tray() {
        RustFamily x = new RustFamily();
        Check.fine(x, "5 the longest", x.tray(3, 3, 60));
        Check.fine(x, "5 its last is 0", x.read(3, 59), 0);
        Check.refused(x, "5 no more", x.read(3, 60), 4);
        Check.fine(x, "5 an empty one", x.tray(0, 0, 0));
        Check.refused(x, "5 without a number", x.read(0, 0), 4);
        Check.refused(x, "5 tray 4", x.tray(4, 0, 1), 1);
        Check.refused(x, "5 tray -1", x.tray(-1, 0, 1), 1);
        Check.refused(x, "5 sort 4", x.tray(0, 4, 1), 1);
        Check.refused(x, "5 sort -1", x.tray(0, -1, 1), 1);
        Check.refused(x, "5 61 numbers", x.tray(0, 0, 61), 5);
        Check.refused(x, "5 -1 numbers", x.tray(0, 0, -1), 6);
        Check.refused(x, "5 no sort is told ahead of the length", x.tray(0, 4, 61), 1);
        Check.refused(x, "5 the old one stayed", x.read(0, 0), 4);
        x.tray(1, 2, 3);
        x.write(1, 2, 77);
        Check.refused(x, "5 too long a one", x.tray(1, 2, 99), 5);
        Check.fine(x, "5 changed nothing", x.read(1, 2), 77);
        Check.fine(x, "5 anew", x.tray(1, 2, 3));
        Check.fine(x, "5 all 0 again", x.read(1, 2), 0);
    }

    private static void write() {
        RustFamily x = new RustFamily();
        long[] cut = {-56, -25336, 1234567890L, 12345678901234L};
        long[] told = {200, 40200, 1234567890L + (5L << 32), 12345678901234L};
        for (int sort = 0; sort < 4; sort++) {
            x.tray(sort, sort, 2);
            Check.fine(x, "6 write, sort " + sort, x.write(sort, 1, told[sort]));
            Check.fine(x, "6 cut, sort " + sort, x.read(sort, 1), cut[sort]);
            Check.fine(x, "6 the other place, sort " + sort, x.read(sort, 0), 0);
        }
        Check.fine(x, "6 with sign", x.write(2, 0, 1L << 31));
        Check.fine(x, "6 the sign bit", x.read(2, 0), Integer.MIN_VALUE);
        Check.refused(x, "6 tray 4", x.write(4, 0, 1), 1);
        Check.refused(x, "6 place 2", x.write(0, 2, 1), 4);
        Check.refused(x, "6 place -1", x.write(0, -1, 1), 4);
        RustFamily y = new RustFamily();
        Check.refused(y, "6 a missing tray", y.write(0, 0, 1), 3);
    }

    private static void read() {
        RustFamily x = new RustFamily();
        x.tray(0, 3, 1);
        x.write(0, 0, -1);
        Check.fine(x, "7 -1 that is there", x.read(0, 0), -1);
        Check.refused(x, "7 no such place", x.read(0, 1), 4);
        Check.refused(x, "7 place -1", x.read(0, -1), 4);
        Check.refused(x, "7 missing", x.read(1, 0), 3);
        Check.refused(x, "7 no such tray", x.read(-1, 0), 1);
        x.write(0, 0, Long.MIN_VALUE);
        Check.fine(x, "7 the least", x.read(0, 0), Long.MIN_VALUE);
    }

    private static RustFamily counted() {
        RustFamily x = new RustFamily();
        x.tray(0, 1, 6);
        for (int i = 0; i < 6; i++) {
            x.write(0, i, i + 1);
        }
        x.tray(1, 1, 4);
        return x;
    }

    private static long row(RustFamily x, int tray, int many) {
        long row = 0;
        for (int i = 0; i < many; i++) {
            row = row * 10 + x.read(tray, i);
        }
        return row;
    }

    private static void pour() {
        RustFamily x = counted();
        Check.fine(x, "8 to another", x.pour(0, 2, 1, 1, 3));
        Check.due("8 what came", row(x, 1, 4), 345);
        Check.due("8 what stayed", row(x, 0, 6), 123456);
        Check.fine(x, "8 up in the same", x.pour(0, 0, 0, 2, 4));
        Check.due("8 as they were", row(x, 0, 6), 121234);
        x = counted();
        Check.fine(x, "8 down in the same", x.pour(0, 2, 0, 0, 4));
        Check.due("8 as they were, too", row(x, 0, 6), 345656);
        Check.fine(x, "8 none", x.pour(0, 6, 1, 4, 0));
        Check.due("8 none came", row(x, 1, 4), 0);
    }

    private static void pourStatus() {
        RustFamily x = counted();
        x.tray(2, 2, 6);
        Check.refused(x, "8 no such tray", x.pour(4, 0, 0, 0, 1), 1);
        Check.refused(x, "8 to no such tray", x.pour(3, 0, -1, 0, 1), 1);
        Check.refused(x, "8 a missing one", x.pour(3, 0, 2, 0, -1), 3);
        Check.refused(x, "8 to a missing one", x.pour(0, 0, 3, 0, -1), 3);
        Check.refused(x, "8 unlike sorts ahead of below 0", x.pour(0, 0, 2, 0, -1), 11);
        Check.refused(x, "8 below 0 ahead of places", x.pour(0, -1, 1, 9, -1), 6);
        Check.refused(x, "8 place -1", x.pour(0, -1, 1, 0, 1), 4);
        Check.refused(x, "8 to place -1", x.pour(0, 0, 1, -1, 1), 4);
        Check.refused(x, "8 too few", x.pour(0, 4, 1, 0, 3), 4);
        Check.refused(x, "8 too few there", x.pour(0, 0, 1, 2, 3), 4);
        Check.refused(x, "8 far too many", x.pour(0, 1, 1, 1, Integer.MAX_VALUE), 4);
        Check.due("8 all refused", row(x, 1, 4), 0);
    }
}
