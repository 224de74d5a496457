import java.util.Arrays;

/** Rust in a family. What each call promises stands in DOC.md; words in capitals are that document's. */
public final class RustFamily {
    public static final int NONE = -1;

    private static final int FINE = 0;
    private static final int NO_TRAY = 1;
    private static final int NO_SUCH_ONE = 2;
    private static final int IS_MISSING = 3;
    private static final int NO_PLACE = 4;
    private static final int BAD_NUMBER = 5;
    private static final int BELOW_ZERO = 6;
    private static final int TOO_MANY = 7;
    private static final int THERE_IS_NONE = 8;
    private static final int CANNOT_BE = 9;
    private static final int HAS_FAULT = 10;
    private static final int UNLIKE_SORTS = 11;

    private static final int TRAYS = 4;
    private static final int TRAY_LIMIT = 60;
    private static final int TAPE_LIMIT = 900;
    private static final int PLAN_LIMIT = 300;
    private static final int PEOPLE_LIMIT = 6;
    private static final int THINGS_LIMIT = 8;
    private static final int MARKS_LIMIT = 3;
    private static final int LAST_YEAR = 9999;
    private static final int LAST_SEED = 9999;
    private static final int MOST_RUST = 999;
    private static final int MOST_AHEAD = 200;

    private int status;
    private long top;
    private long bottom;
    private final Tray[] trays;
    private final Text text;
    private Family family;
    /** A second one, so that a text with a FAULT, or a mean, leaves the first as it is. */
    private Family spare;
    private Plan sparePlan;
    private final Family[] marked;
    private int marks;
    private final Ahead ahead;
    private final Sight sight;
    private final Keepers keepers;
    private final Game match;
    /** What lived() tells of the latest live(). */
    private final int[] latestLived;
    private boolean hasLived;

    public RustFamily() {
        status = FINE;
        top = 0;
        bottom = 1;
        trays = new Tray[TRAYS];
        for (int i = 0; i < TRAYS; i++) {
            trays[i] = new Tray();
        }
        text = new Text();
        family = new Family();
        spare = new Family();
        sparePlan = new Plan();
        marked = new Family[MARKS_LIMIT];
        marks = 0;
        ahead = new Ahead();
        sight = new Sight();
        keepers = new Keepers();
        match = new Game();
        latestLived = new int[5];
        hasLived = false;
    }

    public int status() {
        return status;
    }

    public long top() {
        return top;
    }

    public long bottom() {
        return bottom;
    }

    // ---- TRAYS

    public boolean tray(int tray, int sort, int many) {
        status = !isTray(tray) || sort < 0 || sort > 3 ? NO_TRAY
            : many > TRAY_LIMIT ? BAD_NUMBER
            : many < 0 ? BELOW_ZERO
            : FINE;
        if (status != FINE) {
            return false;
        }
        trays[tray].lay(sort, many);
        return true;
    }

    public boolean write(int tray, int place, long v) {
        status = placeStatus(tray, place);
        if (status != FINE) {
            return false;
        }
        trays[tray].put(place, v);
        return true;
    }

    public long read(int tray, int place) {
        status = placeStatus(tray, place);
        if (status != FINE) {
            return NONE;
        }
        return trays[tray].numbers[place];
    }

    public boolean pour(int tray, int i, int to, int j, int many) {
        status = pourStatus(tray, i, to, j, many);
        if (status != FINE) {
            return false;
        }
        System.arraycopy(trays[tray].numbers, i, trays[to].numbers, j, many);
        return true;
    }

    private int pourStatus(int tray, int i, int to, int j, int many) {
        return !isTray(tray) || !isTray(to) ? NO_TRAY
            : trays[tray].isMissing() || trays[to].isMissing() ? IS_MISSING
            : trays[tray].sort != trays[to].sort ? UNLIKE_SORTS
            : many < 0 ? BELOW_ZERO
            : !trays[tray].holds(i, many) || !trays[to].holds(j, many) ? NO_PLACE
            : FINE;
    }

    private static boolean isTray(int tray) {
        return tray >= 0 && tray < TRAYS;
    }

    private int trayStatus(int tray) {
        return !isTray(tray) ? NO_TRAY : trays[tray].isMissing() ? IS_MISSING : FINE;
    }

    private int placeStatus(int tray, int place) {
        int lacking = trayStatus(tray);
        return lacking != FINE ? lacking : trays[tray].holds(place, 1) ? FINE : NO_PLACE;
    }

    // ---- texts

    public int feed(int a, int b, int c, int d, int e) {
        if (text.fed + 20 > TAPE_LIMIT) {
            return NONE;
        }
        text.put(a);
        text.put(b);
        text.put(c);
        text.put(d);
        text.put(e);
        return text.fed;
    }

    public int family(int n) {
        status = n < 0 || n > text.fed ? BAD_NUMBER : FINE;
        if (status != FINE) {
            return NONE;
        }
        text.open(n);
        if (!Reader.takeFamily(text, spare)) {
            status = HAS_FAULT;
            return NONE;
        }
        Family old = family;
        family = spare;
        spare = old;
        return family.things;
    }

    public int years(int n) {
        status = n < 0 || n > text.fed || n > PLAN_LIMIT ? BAD_NUMBER : FINE;
        if (status != FINE) {
            return NONE;
        }
        text.open(n);
        if (!Reader.takePlan(text, family, sparePlan)) {
            status = HAS_FAULT;
            return NONE;
        }
        Plan old = family.plan;
        family.plan = sparePlan;
        sparePlan = old;
        return family.plan.steps;
    }

    public int fault(int what) {
        return what == 0 ? text.faultKind : what == 1 ? text.faultPlace : NONE;
    }

    public int many(int what) {
        status = FINE;
        switch (what) {
            case 0: return family.people;
            case 1: return family.things;
            case 2: return family.shows;
            case 3: return family.life;
            case 4: return family.damp;
            case 5: return family.breath;
            case 6: return family.year;
            case 7: return family.livingSet();
            case 8: return family.showingSet(0);
            case 9: return family.throughSet();
            case 10: return family.oiledSet();
            case 11: return family.allRust();
            default:
                status = BAD_NUMBER;
                return NONE;
        }
    }

    public int person(int person, int what) {
        status = !isPerson(person) ? NO_SUCH_ONE : what < 0 || what > 4 ? BAD_NUMBER : FINE;
        if (status != FINE) {
            return NONE;
        }
        Person one = family.persons[person];
        switch (what) {
            case 0: return one.age;
            case 1: return one.of ? 1 : 0;
            case 2: return one.lives ? 1 : 0;
            case 3: return family.showsAhead(person, 0) ? 1 : 0;
            default: return one.lovedSet(family.things);
        }
    }

    public int thing(int thing, int what) {
        status = !isThing(thing) ? NO_SUCH_ONE : what < 0 || what > 6 ? BAD_NUMBER : FINE;
        if (status != FINE) {
            return NONE;
        }
        Thing one = family.items[thing];
        switch (what) {
            case 0: return one.thick;
            case 1: return one.coat;
            case 2: return one.rust;
            case 3: return one.oil;
            case 4: return family.lovedAhead(thing, 0);
            case 5: return one.bite(family.lovedAhead(thing, 0), family.damp);
            default: return one.isThrough() ? 1 : 0;
        }
    }

    public int love(int person, int thing) {
        status = pairStatus(person, thing);
        if (status != FINE) {
            return NONE;
        }
        return family.persons[person].love[thing];
    }

    public int copyRust(int tray) {
        int lacking = trayStatus(tray);
        status = lacking != FINE ? lacking : trays[tray].holds(0, family.things) ? FINE : NO_PLACE;
        if (status != FINE) {
            return NONE;
        }
        for (int i = 0; i < family.things; i++) {
            trays[tray].put(i, family.items[i].rust);
        }
        return family.things;
    }

    private boolean isPerson(int person) {
        return person >= 0 && person < family.people;
    }

    private boolean isThing(int thing) {
        return thing >= 0 && thing < family.things;
    }

    private int pairStatus(int person, int thing) {
        return isPerson(person) && isThing(thing) ? FINE : NO_SUCH_ONE;
    }

    private static boolean isWithin(int number, int least, int most) {
        return number >= least && number <= most;
    }

    // ---- what is done

    public int year(int years) {
        status = !isWithin(years, 1, 99) ? BAD_NUMBER
            : family.year + years > LAST_YEAR ? TOO_MANY
            : FINE;
        if (status != FINE) {
            return NONE;
        }
        int before = family.throughSet();
        family.passYears(years);
        return family.throughSet() & ~before;
    }

    public int dote(int person, int thing, int much) {
        int lacking = pairStatus(person, thing);
        status = lacking != FINE ? lacking
            : !isWithin(much, 0, 9) ? BAD_NUMBER
            : family.persons[person].love[thing] == much ? CANNOT_BE
            : FINE;
        if (status != FINE) {
            return NONE;
        }
        int old = family.persons[person].love[thing];
        family.persons[person].love[thing] = much;
        return old;
    }

    public int oil(int thing) {
        status = wholeStatus(thing);
        if (status != FINE) {
            return NONE;
        }
        family.items[thing].putOil();
        return family.items[thing].oil;
    }

    public int coat(int thing, int much) {
        status = !isThing(thing) ? NO_SUCH_ONE
            : !isWithin(much, 1, 999) ? BAD_NUMBER
            : wholeStatus(thing);
        if (status != FINE) {
            return NONE;
        }
        family.items[thing].putCoat(much);
        return family.items[thing].coat;
    }

    public int mend(int thing) {
        status = wholeStatus(thing);
        if (status != FINE) {
            return NONE;
        }
        family.items[thing].halveRust();
        return family.items[thing].rust;
    }

    public int breathe(int thing) {
        status = wholeStatus(thing);
        if (status != FINE) {
            return NONE;
        }
        family.items[thing].takeBreath(family.breath);
        return family.items[thing].rust;
    }

    public int forge(int thick) {
        status = !isWithin(thick, 1, 999) ? BAD_NUMBER
            : family.things >= THINGS_LIMIT ? TOO_MANY
            : FINE;
        if (status != FINE) {
            return NONE;
        }
        family.addThing(0, thick, 0);
        return family.things - 1;
    }

    public int born(int age, boolean of) {
        status = !isWithin(age, 0, 119) ? BAD_NUMBER
            : family.people >= PEOPLE_LIMIT ? TOO_MANY
            : FINE;
        if (status != FINE) {
            return NONE;
        }
        family.addPerson(0, age, of);
        return family.people - 1;
    }

    public boolean rule(int what, int much) {
        status = canRule(what, much) ? FINE : BAD_NUMBER;
        if (status != FINE) {
            return false;
        }
        switch (what) {
            case 2: family.shows = much; break;
            case 3: family.life = much; break;
            case 4: family.damp = much; break;
            default: family.breath = much; break;
        }
        return true;
    }

    private static boolean canRule(int what, int much) {
        switch (what) {
            case 2: return isWithin(much, 0, 99);
            case 3: return isWithin(much, 1, 120);
            case 4: return isWithin(much, 0, 9);
            case 5: return isWithin(much, 0, 99);
            default: return false;
        }
    }

    /** What is THROUGH can't be helped, nor harmed. */
    private int wholeStatus(int thing) {
        return !isThing(thing) ? NO_SUCH_ONE : family.items[thing].isThrough() ? CANNOT_BE : FINE;
    }

    // ---- YEARS ahead

    public int rustIn(int thing, int years) {
        status = !isThing(thing) ? NO_SUCH_ONE : !isWithin(years, 0, MOST_AHEAD) ? BAD_NUMBER : FINE;
        if (status != FINE) {
            return NONE;
        }
        return ahead.rustAfter(family, thing, years);
    }

    public int throughIn(int thing) {
        status = isThing(thing) ? FINE : NO_SUCH_ONE;
        if (status != FINE) {
            return NONE;
        }
        return orNone(ahead.walk(family, thing, MOST_AHEAD, NONE, 0));
    }

    public int firstThrough() {
        status = FINE;
        int first = NONE;
        int soonest = MOST_AHEAD + 1;
        for (int i = 0; i < family.things; i++) {
            int when = ahead.walk(family, i, MOST_AHEAD, NONE, 0);
            if (when != NONE && when < soonest) {
                first = i;
                soonest = when;
            }
        }
        return orNone(first);
    }

    public int throughBy(int years) {
        status = isWithin(years, 0, MOST_AHEAD) ? FINE : BAD_NUMBER;
        if (status != FINE) {
            return NONE;
        }
        int set = 0;
        for (int i = 0; i < family.things; i++) {
            if (ahead.walk(family, i, years, NONE, 0) != NONE) {
                set |= 1 << i;
            }
        }
        return set;
    }

    public int showsIn(int person) {
        status = isPerson(person) ? FINE : NO_SUCH_ONE;
        if (status != FINE) {
            return NONE;
        }
        int wait = Math.max(0, family.shows - family.persons[person].age);
        return orNone(family.showsAhead(person, wait) ? wait : NONE);
    }

    public int diesIn(int person) {
        status = !isPerson(person) ? NO_SUCH_ONE
            : !family.persons[person].lives ? THERE_IS_NONE
            : FINE;
        if (status != FINE) {
            return NONE;
        }
        return Math.max(1, family.life - family.persons[person].age);
    }

    public int worst(int years) {
        status = !isWithin(years, 0, 50) ? BAD_NUMBER : family.people == 0 ? THERE_IS_NONE : FINE;
        if (status != FINE) {
            return NONE;
        }
        int worst = 0;
        int least = ahead.allRustWithout(family, 0, years);
        for (int i = 1; i < family.people; i++) {
            int without = ahead.allRustWithout(family, i, years);
            if (without < least) {
                worst = i;
                least = without;
            }
        }
        return worst;
    }

    private int orNone(int found) {
        if (found == NONE) {
            status = THERE_IS_NONE;
        }
        return found;
    }

    // ---- oil, less love

    public int jars(int thing, int n) {
        status = !isThing(thing) ? NO_SUCH_ONE : !isWithin(n, 0, Ahead.MOST_JARRED) ? BAD_NUMBER : FINE;
        if (status != FINE) {
            return NONE;
        }
        return orNone(ahead.fewestJars(family, thing, n));
    }

    public int jarsFor(int things, int n) {
        status = isSet(things, family.things) && isWithin(n, 0, Ahead.MOST_JARRED) ? FINE : BAD_NUMBER;
        if (status != FINE) {
            return NONE;
        }
        int all = 0;
        for (int i = 0; i < family.things; i++) {
            if ((things >> i & 1) != 0) {
                int jars = ahead.fewestJars(family, i, n);
                if (jars == NONE) {
                    return orNone(NONE);
                }
                all += jars;
            }
        }
        return all;
    }

    public int less(int person, int thing, int n) {
        int lacking = pairStatus(person, thing);
        status = lacking != FINE ? lacking : isWithin(n, 0, 50) ? FINE : BAD_NUMBER;
        if (status != FINE) {
            return NONE;
        }
        int most = family.persons[person].love[thing];
        for (int points = 0; points <= most; points++) {
            if (ahead.walk(family, thing, n, person, points) == NONE) {
                return points;
            }
        }
        return orNone(NONE);
    }

    private static boolean isSet(int set, int many) {
        return set >= 0 && set < 1 << many;
    }

    // ---- what was seen

    public int seen(int tray, int n) {
        status = seenStatus(tray, n);
        if (status != FINE) {
            return NONE;
        }
        sight.look(family.showingSet(0), trays[tray].numbers, n);
        return sight.ways();
    }

    public int sure(int person, int tray, int n) {
        status = isTray(tray) && !isPerson(person) ? NO_SUCH_ONE : seenStatus(tray, n);
        if (status != FINE) {
            return NONE;
        }
        if (!family.showsAhead(person, 0)) {
            return orNone(NONE);
        }
        sight.look(family.showingSet(0), trays[tray].numbers, n);
        return orNone(sight.onlyLove());
    }

    public int ask(int tray, int n) {
        status = seenStatus(tray, n);
        if (status != FINE) {
            return NONE;
        }
        sight.look(family.showingSet(0), trays[tray].numbers, n);
        return orNone(sight.ways() < 2 ? NONE : sight.bestDamp());
    }

    private int seenStatus(int tray, int n) {
        int lacking = trayStatus(tray);
        return lacking != FINE ? lacking
            : 2L * n > trays[tray].length ? NO_PLACE
            : !isWithin(n, 0, 20) || !areTwos(trays[tray].numbers, n) ? BAD_NUMBER
            : FINE;
    }

    /** A BITE has no most: one above all that LOVED gives can be, only that no way gives it. */
    private static boolean areTwos(long[] twos, int n) {
        for (int i = 0; i < n; i++) {
            if (twos[2 * i] < 0 || twos[2 * i] > 9 || twos[2 * i + 1] < 0) {
                return false;
            }
        }
        return true;
    }

    // ---- who keeps what

    public int keeping(int people) {
        status = isSet(people, family.people) ? keepingStatus(people) : BAD_NUMBER;
        if (status != FINE) {
            return NONE;
        }
        return keepers.leastLove(family, people);
    }

    public int keeps(int people, int person) {
        int wrong = memberStatus(people, person);
        status = wrong != FINE ? wrong : keepingStatus(people);
        if (status != FINE) {
            return NONE;
        }
        keepers.leastLove(family, people);
        return keepers.cheapestOf(family, person);
    }

    public int stable(int people, int person) {
        status = memberStatus(people, person);
        if (status != FINE) {
            return NONE;
        }
        keepers.askAround(family, people);
        return orNone(keepers.kept[person]);
    }

    public int stables(int people) {
        status = isSet(people, family.people) && Integer.bitCount(people) <= 4 ? FINE : BAD_NUMBER;
        if (status != FINE) {
            return NONE;
        }
        return keepers.countStable(family, people);
    }

    private int memberStatus(int people, int person) {
        return !isPerson(person) ? NO_SUCH_ONE
            : !isSet(people, family.people) || (people >> person & 1) == 0 ? BAD_NUMBER
            : FINE;
    }

    private int keepingStatus(int people) {
        int whole = family.things - Integer.bitCount(family.throughSet());
        return Integer.bitCount(people) > whole ? THERE_IS_NONE : FINE;
    }

    // ---- games, odds

    public int game(int thing, int other, int turns) {
        status = gameStatus(thing, other, turns, 0);
        if (status != FINE) {
            return NONE;
        }
        return match.play(family, thing, other, turns);
    }

    public int moveOf(int thing, int other, int turns) {
        status = gameStatus(thing, other, turns, 1);
        if (status != FINE) {
            return NONE;
        }
        match.play(family, thing, other, turns);
        return match.firstMove;
    }

    public boolean lasts(int thing, int n) {
        status = oddsStatus(thing, n);
        if (status != FINE) {
            return false;
        }
        ahead.spread(family, thing, n);
        tell(ahead.waysToLast(family.items[thing], family.items[thing].thick), ahead.allWays);
        return true;
    }

    public int thickFor(int thing, int n, int tenths) {
        int wrong = oddsStatus(thing, n);
        status = wrong != FINE ? wrong : isWithin(tenths, 0, 10) ? FINE : BAD_NUMBER;
        if (status != FINE) {
            return NONE;
        }
        ahead.spread(family, thing, n);
        for (int thick = 1; thick <= 999; thick++) {
            if (10L * ahead.waysToLast(family.items[thing], thick) >= (long) tenths * ahead.allWays) {
                return thick;
            }
        }
        return orNone(NONE);
    }

    public boolean blame(int person) {
        int all = 0;
        for (int i = 0; i < family.things; i++) {
            all += family.lovedAhead(i, 0);
        }
        status = !isPerson(person) ? NO_SUCH_ONE : all == 0 ? THERE_IS_NONE : FINE;
        if (status != FINE) {
            return false;
        }
        int part = 0;
        if (family.showsAhead(person, 0)) {
            for (int i = 0; i < family.things; i++) {
                part += family.persons[person].love[i];
            }
        }
        tell(part, all);
        return true;
    }

    private int gameStatus(int thing, int other, int turns, int fewest) {
        return !isThing(thing) || !isThing(other) ? NO_SUCH_ONE
            : thing == other || !isWithin(turns, fewest, Game.MOST_TURNS) ? BAD_NUMBER
            : FINE;
    }

    private int oddsStatus(int thing, int n) {
        return !isThing(thing) ? NO_SUCH_ONE : !isWithin(n, 0, Ahead.MOST_DRAWN) ? BAD_NUMBER : FINE;
    }

    private void tell(long part, long whole) {
        long divisor = commonDivisor(part, whole);
        top = part / divisor;
        bottom = whole / divisor;
    }

    private static long commonDivisor(long a, long b) {
        long more = a;
        long rest = b;
        // Euclid's steps over longs are fewer than 100.
        for (int i = 0; i < 100 && rest != 0; i++) {
            long next = more % rest;
            more = rest;
            rest = next;
        }
        return Math.max(1, more);
    }

    // ---- YEARS

    public int live(int seed) {
        status = !isWithin(seed, 0, LAST_SEED) ? BAD_NUMBER : family.plan.told ? FINE : THERE_IS_NONE;
        if (status != FINE) {
            return NONE;
        }
        int through = family.throughSet();
        int living = family.livingSet();
        int year = family.year;
        family.plan.run(family, seed);
        latestLived[0] = family.plan.missed;
        latestLived[1] = family.year - year;
        latestLived[2] = Integer.bitCount(family.throughSet() & ~through);
        latestLived[3] = Integer.bitCount(living & ~family.livingSet());
        latestLived[4] = family.plan.isLeft() ? 1 : 0;
        hasLived = true;
        return family.plan.done;
    }

    public int lived(int what) {
        status = !isWithin(what, 0, 4) ? BAD_NUMBER : hasLived ? FINE : THERE_IS_NONE;
        if (status != FINE) {
            return NONE;
        }
        return latestLived[what];
    }

    public boolean mean(int seed, int many) {
        status = !isWithin(seed, 0, LAST_SEED) || !isWithin(many, 1, 20) || seed + many - 1 > LAST_SEED ? BAD_NUMBER
            : family.plan.told ? FINE
            : THERE_IS_NONE;
        if (status != FINE) {
            return false;
        }
        int all = 0;
        for (int i = 0; i < many; i++) {
            spare.copyPeopleAndThings(family);
            family.plan.run(spare, seed + i);
            all += spare.allRust();
        }
        tell(all, many);
        return true;
    }

    // ---- MARKS

    public int mark() {
        status = marks >= MARKS_LIMIT ? TOO_MANY : FINE;
        if (status != FINE) {
            return NONE;
        }
        if (marked[marks] == null) {
            marked[marks] = new Family();
        }
        marked[marks].copyPeopleAndThings(family);
        marked[marks].plan.copyFrom(family.plan);
        marks++;
        return marks;
    }

    public int back() {
        Family latest = marks > 0 ? marked[marks - 1] : null;
        if (latest == null) {
            return orNone(NONE);
        }
        status = FINE;
        marks--;
        // Exchanged, not copied: what is left there is written anew by the next mark().
        marked[marks] = family;
        family = latest;
        return marks;
    }

    /** A row of numbers of one sort, or MISSING. */
    private static final class Tray {
        int sort;
        int length;
        final long[] numbers;

        Tray() {
            sort = NONE;
            length = 0;
            numbers = new long[TRAY_LIMIT];
        }

        boolean isMissing() {
            return sort == NONE;
        }

        void lay(int newSort, int many) {
            sort = newSort;
            length = many;
            Arrays.fill(numbers, 0L);
        }

        boolean holds(int place, int many) {
            return place >= 0 && (long) place + many <= length;
        }

        void put(int place, long v) {
            switch (sort) {
                case 0: numbers[place] = (byte) v; break;
                case 1: numbers[place] = (short) v; break;
                case 2: numbers[place] = (int) v; break;
                default: numbers[place] = v; break;
            }
        }
    }

    private static final class Person {
        long name;
        int age;
        boolean of;
        boolean lives;
        final int[] love;

        Person() {
            love = new int[THINGS_LIMIT];
        }

        void copyFrom(Person other) {
            name = other.name;
            age = other.age;
            of = other.of;
            lives = other.lives;
            System.arraycopy(other.love, 0, love, 0, THINGS_LIMIT);
        }

        int lovedSet(int things) {
            int set = 0;
            for (int i = 0; i < things; i++) {
                if (love[i] > 0) {
                    set |= 1 << i;
                }
            }
            return set;
        }
    }

    private static final class Thing {
        static final int OIL_LASTS = 3;

        long name;
        int thick;
        int coat;
        int rust;
        int oil;

        void copyFrom(Thing other) {
            name = other.name;
            thick = other.thick;
            coat = other.coat;
            rust = other.rust;
            oil = other.oil;
        }

        boolean isThrough() {
            return rust >= thick;
        }

        static int biteBy(int loved, int damp, boolean oiled) {
            int whole = loved * damp / 4;
            return oiled ? whole / 2 : whole;
        }

        int bite(int loved, int damp) {
            return isThrough() ? 0 : biteBy(loved, damp, oil > 0);
        }

        void passYear(int loved, int damp) {
            int bite = bite(loved, damp);
            int gone = Math.min(coat, bite);
            coat -= gone;
            rust = Math.min(MOST_RUST, rust + bite - gone);
            oil = Math.max(0, oil - 1);
        }

        void takeBreath(int breath) {
            rust = Math.min(MOST_RUST, rust + breath);
        }

        void putOil() {
            oil = OIL_LASTS;
        }

        void putCoat(int much) {
            coat = Math.min(999, coat + much);
        }

        void halveRust() {
            rust = rust / 2;
        }
    }

    /** The FAMILY with all that became of it, and its YEARS. */
    private static final class Family {
        static final int SHOWS_WITHOUT = 40;
        static final int LIFE_WITHOUT = 70;
        static final int DAMP_WITHOUT = 4;
        static final int BREATH_WITHOUT = 3;

        int people;
        int things;
        int shows;
        int life;
        int damp;
        int breath;
        int year;
        final Person[] persons;
        final Thing[] items;
        Plan plan;

        Family() {
            shows = SHOWS_WITHOUT;
            life = LIFE_WITHOUT;
            damp = DAMP_WITHOUT;
            breath = BREATH_WITHOUT;
            persons = new Person[PEOPLE_LIMIT];
            for (int i = 0; i < PEOPLE_LIMIT; i++) {
                persons[i] = new Person();
            }
            items = new Thing[THINGS_LIMIT];
            for (int i = 0; i < THINGS_LIMIT; i++) {
                items[i] = new Thing();
            }
            plan = new Plan();
        }

        void copyPeopleAndThings(Family other) {
            people = other.people;
            things = other.things;
            shows = other.shows;
            life = other.life;
            damp = other.damp;
            breath = other.breath;
            year = other.year;
            for (int i = 0; i < people; i++) {
                persons[i].copyFrom(other.persons[i]);
            }
            for (int i = 0; i < things; i++) {
                items[i].copyFrom(other.items[i]);
            }
        }

        void addPerson(long name, int age, boolean of) {
            Person one = persons[people];
            one.name = name;
            one.age = age;
            one.of = of;
            one.lives = true;
            Arrays.fill(one.love, 0);
            people++;
        }

        /** Nobody loves it: addPerson() left nothing in the rows of love behind the THINGS that there are. */
        void addThing(long name, int thick, int coat) {
            Thing one = items[things];
            one.name = name;
            one.thick = thick;
            one.coat = coat;
            one.rust = 0;
            one.oil = 0;
            things++;
        }

        int personNamed(long name) {
            for (int i = 0; i < people; i++) {
                if (persons[i].name == name) {
                    return i;
                }
            }
            return NONE;
        }

        int thingNamed(long name) {
            for (int i = 0; i < things; i++) {
                if (items[i].name == name) {
                    return i;
                }
            }
            return NONE;
        }

        /** Whether it SHOWS in a PERSON when so many YEARS have gone by; who lives now lives on whatever his AGE. */
        boolean showsAhead(int person, int years) {
            Person one = persons[person];
            int then = one.age + years;
            return one.lives && one.of && then >= shows && (years == 0 || then < life);
        }

        int showingSet(int years) {
            int set = 0;
            for (int i = 0; i < people; i++) {
                if (showsAhead(i, years)) {
                    set |= 1 << i;
                }
            }
            return set;
        }

        int lovedBy(int thing, int set) {
            int loved = 0;
            for (int i = 0; i < people; i++) {
                if ((set >> i & 1) != 0) {
                    loved += persons[i].love[thing];
                }
            }
            return loved;
        }

        int lovedAhead(int thing, int years) {
            return lovedBy(thing, showingSet(years));
        }

        int livingSet() {
            int set = 0;
            for (int i = 0; i < people; i++) {
                if (persons[i].lives) {
                    set |= 1 << i;
                }
            }
            return set;
        }

        int throughSet() {
            int set = 0;
            for (int i = 0; i < things; i++) {
                if (items[i].isThrough()) {
                    set |= 1 << i;
                }
            }
            return set;
        }

        int oiledSet() {
            int set = 0;
            for (int i = 0; i < things; i++) {
                if (items[i].oil > 0) {
                    set |= 1 << i;
                }
            }
            return set;
        }

        int allRust() {
            int all = 0;
            for (int i = 0; i < things; i++) {
                all += items[i].rust;
            }
            return all;
        }

        /** False, if these YEARS as a whole can't go by. */
        boolean passYears(int years) {
            if (year + years > LAST_YEAR) {
                return false;
            }
            int left = years;
            for (int i = 0; i < years && livingSet() != 0; i++) {
                passYear();
                left--;
            }
            // When all are dead nothing is LOVED any more: only OIL and the YEAR go on.
            for (int i = 0; i < things; i++) {
                items[i].oil = Math.max(0, items[i].oil - left);
            }
            year += years;
            return true;
        }

        private void passYear() {
            for (int i = 0; i < people; i++) {
                if (persons[i].lives) {
                    persons[i].age++;
                    persons[i].lives = persons[i].age < life;
                }
            }
            int showing = showingSet(0);
            for (int i = 0; i < things; i++) {
                items[i].passYear(lovedBy(i, showing), damp);
            }
        }
    }

    /** The tape, the text that is read from it TOKEN by TOKEN, and its FAULT. */
    private static final class Text {
        static final int END = 0;
        static final int WORD = 1;
        static final int NUMBER = 2;
        static final int SIGN = 3;
        static final int WRONG = 4;
        static final int NAME_LIMIT = 8;
        static final int DIGITS_LIMIT = 4;

        final byte[] bytes;
        int fed;
        int length;
        int next;
        int kind;
        int start;
        int size;
        /** The letters of a WORD, 5 bits each, so that NAMES are kept and compared as one number. */
        long letters;
        int value;
        /** The latest NUMBER that was taken. */
        int amount;
        int faultKind;
        int faultPlace;

        Text() {
            bytes = new byte[TAPE_LIMIT];
            faultKind = NONE;
            faultPlace = NONE;
        }

        void put(int four) {
            for (int shift = 24; shift >= 0; shift -= 8) {
                bytes[fed] = (byte) (four >> shift);
                fed++;
            }
        }

        void open(int n) {
            length = n;
            fed = 0;
            next = 0;
            faultKind = 0;
            faultPlace = NONE;
            advance();
        }

        void advance() {
            skipBlanks();
            start = next;
            size = 0;
            letters = 0;
            value = 0;
            if (start >= length) {
                kind = END;
            } else if (isLetter(bytes[start])) {
                scanWord();
            } else if (isDigit(bytes[start])) {
                scanNumber();
            } else {
                value = bytes[start];
                kind = value == ';' || value == '<' || value == '>' || value == '=' ? SIGN : WRONG;
                next = start + 1;
            }
        }

        private void skipBlanks() {
            for (; next < length; next++) {
                if (bytes[next] != 10 && bytes[next] != 32) {
                    return;
                }
            }
        }

        private void scanWord() {
            kind = WORD;
            for (; next < length && isLetter(bytes[next]); next++) {
                if (size < NAME_LIMIT) {
                    letters = letters * 32 + (bytes[next] - 'a' + 1);
                }
                size++;
            }
        }

        private void scanNumber() {
            for (; next < length && isDigit(bytes[next]); next++) {
                if (size < DIGITS_LIMIT) {
                    value = value * 10 + (bytes[next] - '0');
                }
                size++;
            }
            kind = size <= DIGITS_LIMIT ? NUMBER : WRONG;
        }

        private static boolean isLetter(byte c) {
            return c >= 'a' && c <= 'z';
        }

        private static boolean isDigit(byte c) {
            return c >= '0' && c <= '9';
        }

        /** Answers false, so that a reader can end by it; of one TOKEN the least kind of FAULT is told. */
        boolean refuse(int fault) {
            faultKind = kind == WRONG ? 1 : fault;
            faultPlace = start;
            return false;
        }

        boolean is(String word) {
            if (kind != WORD || size != word.length()) {
                return false;
            }
            for (int i = 0; i < size; i++) {
                if (bytes[start + i] != word.charAt(i)) {
                    return false;
                }
            }
            return true;
        }

        private boolean isReserved() {
            return is("shows") || is("life") || is("damp") || is("breath") || is("person") || is("age")
                || is("of") || is("thing") || is("thick") || is("coat") || is("loves") || is("year")
                || is("oil") || is("mend") || is("any") || is("when") || is("through") || is("rust")
                || is("loop") || is("end") || is("stop");
        }

        boolean takeWord(String word) {
            if (!is(word)) {
                return refuse(2);
            }
            advance();
            return true;
        }

        boolean takeEndSign() {
            if (kind != SIGN || value != ';') {
                return refuse(2);
            }
            advance();
            return true;
        }

        boolean takeNumber(int least, int most) {
            if (kind != NUMBER) {
                return refuse(2);
            }
            if (!isWithin(value, least, most)) {
                return refuse(4);
            }
            amount = value;
            advance();
            return true;
        }

        /** Takes a NAME, if it is such a one as may stand here (told from its letters, ahead of the call). */
        boolean takeName(boolean suits) {
            if (kind != WORD || size > NAME_LIMIT || isReserved()) {
                return refuse(2);
            }
            if (!suits) {
                return refuse(3);
            }
            advance();
            return true;
        }
    }

    /** Reads a FAMILY, and YEARS, from their texts. */
    private static final class Reader {
        static boolean takeFamily(Text text, Family family) {
            clear(family);
            // Each PART takes three bytes or more.
            for (int parts = 0; parts <= TAPE_LIMIT; parts++) {
                if (text.kind == Text.END) {
                    setDefaults(family);
                    return true;
                }
                boolean fine = text.is("person") ? takePerson(text, family)
                    : text.is("thing") ? takeThing(text, family)
                    : text.is("loves") ? takeLove(text, family)
                    : takeRule(text, family);
                if (!fine) {
                    return false;
                }
            }
            return false;
        }

        /** NONE stands for what is not told yet, until the end of the text. */
        private static void clear(Family family) {
            family.people = 0;
            family.things = 0;
            family.shows = NONE;
            family.life = NONE;
            family.damp = NONE;
            family.breath = NONE;
            family.year = 0;
            family.plan.clear();
        }

        private static void setDefaults(Family family) {
            family.shows = family.shows == NONE ? Family.SHOWS_WITHOUT : family.shows;
            family.life = family.life == NONE ? Family.LIFE_WITHOUT : family.life;
            family.damp = family.damp == NONE ? Family.DAMP_WITHOUT : family.damp;
            family.breath = family.breath == NONE ? Family.BREATH_WITHOUT : family.breath;
        }

        /** What is set in spite of a FAULT is never seen: such a FAMILY is not taken. */
        private static boolean takeRule(Text text, Family family) {
            boolean fine;
            if (text.is("shows")) {
                fine = takeOnce(text, family.shows, 0, 99);
                family.shows = text.amount;
            } else if (text.is("life")) {
                fine = takeOnce(text, family.life, 1, 120);
                family.life = text.amount;
            } else if (text.is("damp")) {
                fine = takeOnce(text, family.damp, 0, 9);
                family.damp = text.amount;
            } else if (text.is("breath")) {
                fine = takeOnce(text, family.breath, 0, 99);
                family.breath = text.amount;
            } else {
                fine = text.refuse(2);
            }
            return fine;
        }

        private static boolean takeOnce(Text text, int old, int least, int most) {
            if (old != NONE) {
                return text.refuse(5);
            }
            text.advance();
            return text.takeNumber(least, most) && text.takeEndSign();
        }

        private static boolean isNew(Family family, long name) {
            return family.personNamed(name) == NONE && family.thingNamed(name) == NONE;
        }

        private static boolean takePerson(Text text, Family family) {
            if (family.people >= PEOPLE_LIMIT) {
                return text.refuse(6);
            }
            text.advance();
            long name = text.letters;
            if (!text.takeName(isNew(family, name)) || !text.takeWord("age") || !text.takeNumber(0, 119)) {
                return false;
            }
            boolean of = text.is("of");
            if (of) {
                text.advance();
            }
            if (!text.takeEndSign()) {
                return false;
            }
            family.addPerson(name, text.amount, of);
            return true;
        }

        private static boolean takeThing(Text text, Family family) {
            if (family.things >= THINGS_LIMIT) {
                return text.refuse(6);
            }
            text.advance();
            long name = text.letters;
            if (!text.takeName(isNew(family, name)) || !text.takeWord("thick") || !text.takeNumber(1, 999)) {
                return false;
            }
            int thick = text.amount;
            int coat = 0;
            if (text.is("coat")) {
                text.advance();
                if (!text.takeNumber(0, 999)) {
                    return false;
                }
                coat = text.amount;
            }
            if (!text.takeEndSign()) {
                return false;
            }
            family.addThing(name, thick, coat);
            return true;
        }

        private static boolean takeLove(Text text, Family family) {
            text.advance();
            int person = family.personNamed(text.letters);
            if (!text.takeName(person != NONE)) {
                return false;
            }
            int thing = family.thingNamed(text.letters);
            if (!text.takeName(thing != NONE) || !text.takeNumber(0, 9) || !text.takeEndSign()) {
                return false;
            }
            family.persons[person].love[thing] = text.amount;
            return true;
        }

        static boolean takePlan(Text text, Family family, Plan plan) {
            plan.clear();
            // Each STEP, each end takes four bytes or more.
            for (int i = 0; i <= PLAN_LIMIT; i++) {
                if (text.kind == Text.END) {
                    plan.told = plan.latestOpen() == NONE;
                    return plan.told || text.refuse(2);
                }
                boolean fine = text.is("end") ? closeBlock(text, plan)
                    : text.is("when") ? openStep(text, plan, Plan.WHEN_THROUGH) && takeTest(text, family, plan)
                    : openStep(text, plan, stepKind(text)) && takeRest(text, family, plan);
                if (!fine || !text.takeEndSign()) {
                    return false;
                }
            }
            return false;
        }

        private static boolean closeBlock(Text text, Plan plan) {
            int open = plan.latestOpen();
            if (open == NONE) {
                return text.refuse(2);
            }
            plan.past[open] = plan.steps;
            text.advance();
            return true;
        }

        private static int stepKind(Text text) {
            return text.is("year") ? Plan.YEAR
                : text.is("oil") ? Plan.OIL
                : text.is("loves") ? Plan.LOVES
                : text.is("damp") ? Plan.DAMP
                : text.is("coat") ? Plan.COAT
                : text.is("mend") ? Plan.MEND
                : text.is("any") ? Plan.ANY
                : text.is("stop") ? Plan.STOP
                : text.is("loop") ? Plan.LOOP
                : NONE;
        }

        private static boolean openStep(Text text, Plan plan, int kind) {
            if (kind == NONE) {
                return text.refuse(2);
            }
            if (plan.steps >= Plan.STEPS_LIMIT) {
                return text.refuse(6);
            }
            boolean block = kind >= Plan.LOOP;
            if (block && plan.openBlocks() >= Plan.DEPTH_LIMIT) {
                return text.refuse(7);
            }
            plan.kind[plan.steps] = kind;
            plan.past[plan.steps] = block ? NONE : plan.steps + 1;
            plan.steps++;
            text.advance();
            return true;
        }

        private static boolean takeRest(Text text, Family family, Plan plan) {
            switch (plan.kind[plan.steps - 1]) {
                case Plan.YEAR:
                    return takeMuch(text, plan, 1, 20);
                case Plan.DAMP:
                    return takeMuch(text, plan, 0, 9);
                case Plan.LOOP:
                    return takeMuch(text, plan, 1, 99);
                case Plan.OIL:
                case Plan.MEND:
                    return takeThingName(text, family, plan);
                case Plan.COAT:
                    return takeThingName(text, family, plan) && takeMuch(text, plan, 1, 99);
                case Plan.LOVES:
                    return takePersonName(text, family, plan) && takeThingName(text, family, plan)
                        && takeMuch(text, plan, 0, 9);
                default:
                    return true;
            }
        }

        private static boolean takeTest(Text text, Family family, Plan plan) {
            if (text.is("through")) {
                text.advance();
                return takeThingName(text, family, plan);
            }
            if (text.is("shows")) {
                text.advance();
                plan.kind[plan.steps - 1] = Plan.WHEN_SHOWS;
                return takePersonName(text, family, plan);
            }
            if (text.is("rust")) {
                text.advance();
                return takeThingName(text, family, plan) && takeCompares(text, plan) && takeMuch(text, plan, 0, 999);
            }
            return text.refuse(2);
        }

        private static boolean takeCompares(Text text, Plan plan) {
            if (text.kind != Text.SIGN || text.value == ';') {
                return text.refuse(2);
            }
            plan.kind[plan.steps - 1] = text.value == '<' ? Plan.WHEN_LESS
                : text.value == '>' ? Plan.WHEN_MORE
                : Plan.WHEN_SAME;
            text.advance();
            return true;
        }

        private static boolean takeMuch(Text text, Plan plan, int least, int most) {
            boolean fine = text.takeNumber(least, most);
            plan.much[plan.steps - 1] = text.amount;
            return fine;
        }

        private static boolean takePersonName(Text text, Family family, Plan plan) {
            int person = family.personNamed(text.letters);
            plan.person[plan.steps - 1] = person;
            return text.takeName(person != NONE);
        }

        private static boolean takeThingName(Text text, Family family, Plan plan) {
            int thing = family.thingNamed(text.letters);
            plan.thing[plan.steps - 1] = thing;
            return text.takeName(thing != NONE);
        }
    }

    /** The YEARS that are told, STEP by STEP, and how they are LIVED. */
    private static final class Plan {
        static final int STEPS_LIMIT = 30;
        static final int DEPTH_LIMIT = 3;
        static final int LIVED_LIMIT = 300;
        static final int YEAR = 0;
        static final int OIL = 1;
        static final int LOVES = 2;
        static final int DAMP = 3;
        static final int COAT = 4;
        static final int MEND = 5;
        static final int ANY = 6;
        static final int STOP = 7;
        /** From here on kinds that have STEPS of their own, behind them to their end. */
        static final int LOOP = 8;
        static final int WHEN_THROUGH = 9;
        static final int WHEN_SHOWS = 10;
        static final int WHEN_LESS = 11;
        static final int WHEN_MORE = 12;
        static final int WHEN_SAME = 13;

        boolean told;
        int steps;
        final int[] kind;
        final int[] person;
        final int[] thing;
        final int[] much;
        /** Of when and loop the STEP behind their end, NONE as long as that was not read. */
        final int[] past;
        int done;
        int missed;
        private int drawn;
        private int at;
        private final int[] loops;
        private final int[] rounds;
        private int depth;

        Plan() {
            kind = new int[STEPS_LIMIT];
            person = new int[STEPS_LIMIT];
            thing = new int[STEPS_LIMIT];
            much = new int[STEPS_LIMIT];
            past = new int[STEPS_LIMIT];
            loops = new int[DEPTH_LIMIT];
            rounds = new int[DEPTH_LIMIT];
        }

        void clear() {
            told = false;
            steps = 0;
        }

        void copyFrom(Plan other) {
            told = other.told;
            steps = other.steps;
            System.arraycopy(other.kind, 0, kind, 0, steps);
            System.arraycopy(other.person, 0, person, 0, steps);
            System.arraycopy(other.thing, 0, thing, 0, steps);
            System.arraycopy(other.much, 0, much, 0, steps);
            System.arraycopy(other.past, 0, past, 0, steps);
        }

        int openBlocks() {
            int open = 0;
            for (int i = 0; i < steps; i++) {
                if (past[i] == NONE) {
                    open++;
                }
            }
            return open;
        }

        int latestOpen() {
            for (int i = steps - 1; i >= 0; i--) {
                if (past[i] == NONE) {
                    return i;
                }
            }
            return NONE;
        }

        void run(Family family, int seed) {
            drawn = seed;
            done = 0;
            missed = 0;
            at = 0;
            depth = 0;
            for (int i = 0; i < LIVED_LIMIT && at < steps; i++) {
                done++;
                if (kind[at] == STOP) {
                    depth = 0;
                    at = steps;
                } else if (kind[at] == LOOP) {
                    enterLoop();
                } else if (kind[at] > LOOP) {
                    at = holds(family) ? at + 1 : past[at];
                } else {
                    missed += act(family) ? 0 : 1;
                    at++;
                }
                goRound();
            }
        }

        /** Whether the latest run() ended ahead of its end: stop goes there, too. */
        boolean isLeft() {
            return at < steps;
        }

        /** A loop without STEPS is passed by: going round in it does nothing. */
        private void enterLoop() {
            if (past[at] > at + 1 && depth < DEPTH_LIMIT) {
                loops[depth] = at;
                rounds[depth] = much[at];
                depth++;
            }
            at++;
        }

        /** At the end of loops: back to the first STEP of the innermost that is not over. */
        private void goRound() {
            for (int i = depth - 1; i >= 0 && past[loops[i]] == at; i--) {
                rounds[i]--;
                if (rounds[i] > 0) {
                    at = loops[i] + 1;
                    return;
                }
                depth = i;
            }
        }

        private boolean holds(Family family) {
            if (kind[at] == WHEN_SHOWS) {
                return family.showsAhead(person[at], 0);
            }
            Thing one = family.items[thing[at]];
            switch (kind[at]) {
                case WHEN_LESS: return one.rust < much[at];
                case WHEN_MORE: return one.rust > much[at];
                case WHEN_SAME: return one.rust == much[at];
                default: return one.isThrough();
            }
        }

        /** Whether it could be; else the STEP is MISSED. */
        private boolean act(Family family) {
            switch (kind[at]) {
                case YEAR: return family.passYears(much[at]);
                case DAMP: return actDamp(family, much[at]);
                case LOVES: return actLove(family.persons[person[at]], thing[at], much[at]);
                case ANY: return actAny(family);
                default: return actOn(family.items[thing[at]], kind[at], much[at]);
            }
        }

        private static boolean actDamp(Family family, int damp) {
            boolean isNew = family.damp != damp;
            family.damp = damp;
            return isNew;
        }

        private static boolean actLove(Person person, int thing, int much) {
            boolean isNew = person.love[thing] != much;
            person.love[thing] = much;
            return isNew;
        }

        private boolean actAny(Family family) {
            if (family.things < 1) {
                return false;
            }
            family.damp = draw(10);
            Thing one = family.items[draw(family.things)];
            if (one.isThrough()) {
                return false;
            }
            one.takeBreath(family.breath);
            return true;
        }

        private static boolean actOn(Thing one, int kind, int much) {
            if (one.isThrough()) {
                return false;
            }
            if (kind == OIL) {
                one.putOil();
            } else if (kind == COAT) {
                one.putCoat(much);
            } else {
                one.halveRust();
            }
            return true;
        }

        private int draw(int by) {
            drawn = (drawn * 2971 + 10831) % 65536;
            return drawn / 8 % by;
        }
    }

    /** What becomes of one THING as only YEARS go by. */
    private static final class Ahead {
        static final int MOST_JARRED = 8;
        static final int MOST_DRAWN = 6;
        private static final int DAMPS = 10;
        /** The most that PEOPLE who love it by 9 can bite off in a YEAR of DAMP 9. */
        private static final int MOST_BITE = PEOPLE_LIMIT * 9 * 9 / 4;

        /** In how many ways the DAMPS of spread() can be. */
        int allWays;
        private final Thing then;
        private final int[] savings;
        /** By how much is bitten off in all YEARS together, at most: in how many of these ways. */
        private final int[] waysUpTo;
        private int mostBitten;

        Ahead() {
            then = new Thing();
            savings = new int[MOST_JARRED];
            waysUpTo = new int[MOST_DRAWN * MOST_BITE + 1];
        }

        /** In how many YEARS, so many at most, it is THROUGH first, or NONE, if a PERSON's love was less by so much. */
        int walk(Family family, int thing, int years, int person, int taken) {
            then.copyFrom(family.items[thing]);
            if (then.isThrough()) {
                return 0;
            }
            for (int i = 1; i <= years; i++) {
                int showing = family.showingSet(i);
                int loved = family.lovedBy(thing, showing);
                if (taken > 0 && (showing >> person & 1) != 0) {
                    loved -= taken;
                }
                then.passYear(loved, family.damp);
                if (then.isThrough()) {
                    return i;
                }
            }
            return NONE;
        }

        int rustAfter(Family family, int thing, int years) {
            walk(family, thing, years, NONE, 0);
            return then.rust;
        }

        int allRustWithout(Family family, int person, int years) {
            int all = 0;
            for (int i = 0; i < family.things; i++) {
                walk(family, i, years, person, family.persons[person].love[i]);
                all += then.rust;
            }
            return all;
        }

        /** Bites add up whatever their order: so the jars go to those YEARS in which they save most. */
        int fewestJars(Family family, int thing, int n) {
            Thing one = family.items[thing];
            if (one.isThrough()) {
                return NONE;
            }
            int over = one.rust + 1 - one.thick - one.coat;
            for (int i = 0; i < n; i++) {
                int loved = family.lovedAhead(thing, i + 1);
                boolean oiled = one.oil > i;
                int bite = Thing.biteBy(loved, family.damp, oiled);
                savings[i] = oiled ? 0 : bite - Thing.biteBy(loved, family.damp, true);
                over += bite;
            }
            int jars = 0;
            for (; jars < n && over > 0; jars++) {
                over -= takeMostSaving(n);
            }
            return over > 0 ? NONE : jars;
        }

        private int takeMostSaving(int n) {
            int best = 0;
            for (int i = 1; i < n; i++) {
                if (savings[i] > savings[best]) {
                    best = i;
                }
            }
            int saved = savings[best];
            savings[best] = 0;
            return saved;
        }

        void spread(Family family, int thing, int n) {
            allWays = 1;
            mostBitten = 0;
            waysUpTo[0] = 1;
            for (int i = 0; i < n; i++) {
                spreadYear(family.lovedAhead(thing, i + 1), family.items[thing].oil > i);
                allWays *= DAMPS;
            }
            for (int bitten = 1; bitten <= mostBitten; bitten++) {
                waysUpTo[bitten] += waysUpTo[bitten - 1];
            }
        }

        private void spreadYear(int loved, boolean oiled) {
            int before = mostBitten;
            mostBitten += Thing.biteBy(loved, DAMPS - 1, oiled);
            // From above, so that what is read is still that of a YEAR less.
            for (int bitten = mostBitten; bitten >= 0; bitten--) {
                int ways = 0;
                for (int damp = 0; damp < DAMPS; damp++) {
                    int rest = bitten - Thing.biteBy(loved, damp, oiled);
                    if (rest >= 0 && rest <= before) {
                        ways += waysUpTo[rest];
                    }
                }
                waysUpTo[bitten] = ways;
            }
        }

        /** Of all ways those by which it is not THROUGH, if it was so thick: THROUGH it stays, whatever bites more. */
        int waysToLast(Thing one, int thick) {
            int bearable = one.coat + thick - one.rust - 1;
            return one.rust >= thick ? 0 : waysUpTo[Math.min(bearable, mostBitten)];
        }
    }

    /** Who can love a THING by the BITES that were seen: only how much all love it together is told by these. */
    private static final class Sight {
        static final int MOST_LOVE = 3;
        static final int MOST_SUM = MOST_LOVE * PEOPLE_LIMIT;

        private final boolean[] fits;
        private final int[] waysOfSum;
        private int lovers;

        Sight() {
            fits = new boolean[MOST_SUM + 1];
            waysOfSum = new int[MOST_SUM + 1];
        }

        void look(int showing, long[] twos, int n) {
            lovers = Integer.bitCount(showing);
            for (int sum = 0; sum <= MOST_SUM; sum++) {
                fits[sum] = sum <= MOST_LOVE * lovers && fitsAll(sum, twos, n);
            }
        }

        private static boolean fitsAll(int sum, long[] twos, int n) {
            for (int i = 0; i < n; i++) {
                if (sum * (int) twos[2 * i] / 4 != twos[2 * i + 1]) {
                    return false;
                }
            }
            return true;
        }

        int ways() {
            countSums();
            int all = 0;
            for (int sum = 0; sum <= MOST_SUM; sum++) {
                if (fits[sum]) {
                    all += waysOfSum[sum];
                }
            }
            return all;
        }

        private void countSums() {
            Arrays.fill(waysOfSum, 0);
            waysOfSum[0] = 1;
            for (int i = 0; i < lovers; i++) {
                // From above, so that what is read is still that of one lover less.
                for (int sum = MOST_SUM; sum > 0; sum--) {
                    for (int love = 1; love <= MOST_LOVE && love <= sum; love++) {
                        waysOfSum[sum] += waysOfSum[sum - love];
                    }
                }
            }
        }

        /** The love that one lover (all are alike) has in all ways, or NONE. */
        int onlyLove() {
            int only = NONE;
            for (int love = 0; love <= MOST_LOVE; love++) {
                if (canLove(love)) {
                    if (only != NONE) {
                        return NONE;
                    }
                    only = love;
                }
            }
            return only;
        }

        private boolean canLove(int love) {
            for (int others = 0; others <= MOST_LOVE * (lovers - 1); others++) {
                if (fits[love + others]) {
                    return true;
                }
            }
            return false;
        }

        int bestDamp() {
            int best = NONE;
            int most = 0;
            for (int damp = 1; damp <= 9; damp++) {
                int unlike = unlikeBites(damp);
                if (unlike > most) {
                    best = damp;
                    most = unlike;
                }
            }
            return best;
        }

        private int unlikeBites(int damp) {
            int unlike = 0;
            int latest = NONE;
            for (int sum = 0; sum <= MOST_SUM; sum++) {
                // BITES grow with the sum: alike ones stand side by side.
                if (fits[sum] && sum * damp / 4 != latest) {
                    latest = sum * damp / 4;
                    unlike++;
                }
            }
            return unlike;
        }
    }

    /** Who of a set of PEOPLE keeps what. */
    private static final class Keepers {
        /** Above all LOVES together. */
        private static final int TOO_DEAR = 1000000;

        final int[] kept;
        private final int[] keeper;
        private final int[] asked;
        private final int[] members;
        private int size;
        /** By the set of THINGS that the first PEOPLE keep: the least LOVES of all the others. */
        private final int[] leastBehind;

        Keepers() {
            kept = new int[PEOPLE_LIMIT];
            keeper = new int[THINGS_LIMIT];
            asked = new int[PEOPLE_LIMIT];
            members = new int[PEOPLE_LIMIT];
            leastBehind = new int[1 << THINGS_LIMIT];
        }

        private void gather(Family family, int people) {
            size = 0;
            for (int i = 0; i < family.people; i++) {
                if ((people >> i & 1) != 0) {
                    members[size] = i;
                    size++;
                }
            }
            Arrays.fill(kept, NONE);
            Arrays.fill(keeper, NONE);
            Arrays.fill(asked, 0);
        }

        int leastLove(Family family, int people) {
            gather(family, people);
            for (int used = (1 << family.things) - 1; used >= 0; used--) {
                int first = Integer.bitCount(used);
                leastBehind[used] = first >= size ? 0 : leastFrom(family, members[first], used);
            }
            return leastBehind[0];
        }

        private int leastFrom(Family family, int person, int used) {
            int least = TOO_DEAR;
            for (int i = 0; i < family.things; i++) {
                if (isFree(family, i, used)) {
                    least = Math.min(least, loveAndBehind(family, person, i, used));
                }
            }
            return least;
        }

        private static boolean isFree(Family family, int thing, int used) {
            return (used >> thing & 1) == 0 && !family.items[thing].isThrough();
        }

        private int loveAndBehind(Family family, int person, int thing, int used) {
            return family.persons[person].love[thing] + leastBehind[used | 1 << thing];
        }

        /** What a PERSON keeps by the first of the ways that leastLove() found, or NONE. */
        int cheapestOf(Family family, int person) {
            int used = 0;
            for (int i = 0; i < size; i++) {
                int thing = firstLeast(family, members[i], used);
                if (thing == NONE || members[i] == person) {
                    return thing;
                }
                used |= 1 << thing;
            }
            return NONE;
        }

        private int firstLeast(Family family, int person, int used) {
            for (int i = 0; i < family.things; i++) {
                if (isFree(family, i, used) && loveAndBehind(family, person, i, used) == leastBehind[used]) {
                    return i;
                }
            }
            return NONE;
        }

        /** Leaves the FIRST STABLE keeping in kept. */
        void askAround(Family family, int people) {
            gather(family, people);
            // Each asks each THING once at most.
            for (int i = 0; i < PEOPLE_LIMIT * THINGS_LIMIT; i++) {
                if (!askOnce(family)) {
                    return;
                }
            }
        }

        private boolean askOnce(Family family) {
            for (int i = 0; i < size; i++) {
                int person = members[i];
                int thing = kept[person] == NONE ? mostLoved(family, person) : NONE;
                if (thing != NONE) {
                    askFor(family, person, thing);
                    return true;
                }
            }
            return false;
        }

        private int mostLoved(Family family, int person) {
            int best = NONE;
            int most = 0;
            for (int i = 0; i < family.things; i++) {
                int love = family.persons[person].love[i];
                if (love > most && isFree(family, i, asked[person])) {
                    best = i;
                    most = love;
                }
            }
            return best;
        }

        private void askFor(Family family, int person, int thing) {
            asked[person] |= 1 << thing;
            if (wouldTake(family, person, thing)) {
                if (keeper[thing] != NONE) {
                    kept[keeper[thing]] = NONE;
                }
                keeper[thing] = person;
                kept[person] = thing;
            }
        }

        private boolean wouldTake(Family family, int person, int thing) {
            return keeper[thing] == NONE
                || family.persons[keeper[thing]].love[thing] > family.persons[person].love[thing];
        }

        int countStable(Family family, int people) {
            gather(family, people);
            return countFrom(family, 0);
        }

        private int countFrom(Family family, int depth) {
            if (depth >= size) {
                return isStable(family) ? 1 : 0;
            }
            int person = members[depth];
            int count = countFrom(family, depth + 1);
            for (int i = 0; i < family.things; i++) {
                if (keeper[i] == NONE && !family.items[i].isThrough()) {
                    keeper[i] = person;
                    kept[person] = i;
                    count += countFrom(family, depth + 1);
                    keeper[i] = NONE;
                    kept[person] = NONE;
                }
            }
            return count;
        }

        private boolean isStable(Family family) {
            for (int i = 0; i < size; i++) {
                if (wouldChange(family, members[i])) {
                    return false;
                }
            }
            return true;
        }

        private boolean wouldChange(Family family, int person) {
            int[] love = family.persons[person].love;
            int now = kept[person] == NONE ? 0 : love[kept[person]];
            for (int i = 0; i < family.things; i++) {
                if (love[i] > now && !family.items[i].isThrough() && wouldTake(family, person, i)) {
                    return true;
                }
            }
            return false;
        }
    }

    /** Two masters, by turns. */
    private static final class Game {
        static final int MOST_TURNS = 4;
        private static final int BREATHE = 0;
        private static final int OIL = 1;
        private static final int MOVES = 3;

        int firstMove;
        /** By twos, the first's and the second's THING: as they were given, and behind each turn. */
        private final Thing[] boards;
        private final int[] loved;

        Game() {
            boards = new Thing[2 * (MOST_TURNS + 1)];
            for (int i = 0; i < boards.length; i++) {
                boards[i] = new Thing();
            }
            loved = new int[2 * (MOST_TURNS + 1)];
        }

        int play(Family family, int thing, int other, int turns) {
            boards[0].copyFrom(family.items[thing]);
            boards[1].copyFrom(family.items[other]);
            for (int i = 1; i <= turns; i++) {
                loved[2 * i] = family.lovedAhead(thing, i);
                loved[2 * i + 1] = family.lovedAhead(other, i);
            }
            return bestFrom(family, 0, turns);
        }

        private int bestFrom(Family family, int turn, int turns) {
            if (turn >= turns || turn >= MOST_TURNS) {
                return boards[2 * turn + 1].rust - boards[2 * turn].rust;
            }
            int best = 0;
            boolean found = false;
            for (int move = 0; move < MOVES; move++) {
                if (canMove(turn, move)) {
                    makeMove(family, turn, move);
                    int end = bestFrom(family, turn + 1, turns);
                    if (!found || (turn % 2 == 0 ? end > best : end < best)) {
                        found = true;
                        best = end;
                        firstMove = turn == 0 ? move : firstMove;
                    }
                }
            }
            return best;
        }

        private Thing ownOf(int turn, int board) {
            return boards[2 * board + turn % 2];
        }

        private Thing otherOf(int turn, int board) {
            return boards[2 * board + 1 - turn % 2];
        }

        private boolean canMove(int turn, int move) {
            return move == BREATHE ? !otherOf(turn, turn).isThrough()
                : move != OIL || !ownOf(turn, turn).isThrough();
        }

        private void makeMove(Family family, int turn, int move) {
            int behind = turn + 1;
            for (int side = 0; side < 2; side++) {
                boards[2 * behind + side].copyFrom(boards[2 * turn + side]);
            }
            if (move == BREATHE) {
                otherOf(turn, behind).takeBreath(family.breath);
            } else if (move == OIL) {
                ownOf(turn, behind).putOil();
            }
            for (int side = 0; side < 2; side++) {
                boards[2 * behind + side].passYear(loved[2 * behind + side], family.damp);
            }
        }
    }
}
