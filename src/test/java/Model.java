import java.util.ArrayList;
import java.util.Arrays;
import java.util.HashSet;
import java.util.List;
import java.util.Set;
import java.util.function.IntSupplier;

/**
 * The document a second time, as plain and slow as can be: every YEAR is gone through with a copy of all,
 * every way is tried. Tests compare RustFamily with it.
 */
final class Model {
    static final Set<String> RESERVED = new HashSet<>(Arrays.asList("shows", "life", "damp", "breath", "person",
        "age", "of", "thing", "thick", "coat", "loves", "year", "oil", "mend", "any", "when", "through", "rust",
        "loop", "end", "stop"));

    static final class Refused extends RuntimeException {
        private static final long serialVersionUID = 1L;
        final int status;
        Refused(int status) {
            super(null, null, false, false);
            this.status = status;
        }
    }

    static final class Faulty extends RuntimeException {
        private static final long serialVersionUID = 1L;
        final int kind;
        final int place;
        Faulty(int kind, int place) {
            super(null, null, false, false);
            this.kind = kind;
            this.place = place;
        }
    }

    static final class Halt extends RuntimeException {
        private static final long serialVersionUID = 1L;
        final boolean left;
        Halt(boolean left) {
            super(null, null, false, false);
            this.left = left;
        }
    }

    static final class Person {
        String name;
        int age;
        boolean of;
        boolean lives = true;
        int[] love = new int[8];
    }

    static final class Thing {
        String name;
        int thick;
        int coat;
        int rust;
        int oil;
        boolean through() {
            return rust >= thick;
        }
    }

    static final class Step {
        String word;
        String test;
        String sign;
        int who;
        int what;
        int much;
        List<Step> body = new ArrayList<>();
    }

    static final class State {
        List<Person> people = new ArrayList<>();
        List<Thing> things = new ArrayList<>();
        int[] rules = {0, 0, 40, 70, 4, 3};
        int year;
        List<Step> plan;

        State copy() {
            State c = new State();
            for (Person p : people) {
                Person q = new Person();
                q.name = p.name;
                q.age = p.age;
                q.of = p.of;
                q.lives = p.lives;
                q.love = p.love.clone();
                c.people.add(q);
            }
            for (Thing t : things) {
                Thing u = new Thing();
                u.name = t.name;
                u.thick = t.thick;
                u.coat = t.coat;
                u.rust = t.rust;
                u.oil = t.oil;
                c.things.add(u);
            }
            c.rules = rules.clone();
            c.year = year;
            c.plan = plan;
            return c;
        }

        boolean shows(int p) {
            Person one = people.get(p);
            return one.lives && one.of && one.age >= rules[2];
        }

        int loved(int t) {
            int sum = 0;
            for (int p = 0; p < people.size(); p++) {
                sum += shows(p) ? people.get(p).love[t] : 0;
            }
            return sum;
        }

        int bite(int t, boolean jar) {
            Thing one = things.get(t);
            if (one.through()) {
                return 0;
            }
            int bite = (int) Math.floor(loved(t) * rules[4] / 4.0);
            return one.oil > 0 || jar ? (int) Math.floor(bite / 2.0) : bite;
        }

        void tick(int jarred) {
            for (Person p : people) {
                if (p.lives) {
                    p.age++;
                    if (p.age >= rules[3]) {
                        p.lives = false;
                    }
                }
            }
            for (int t = 0; t < things.size(); t++) {
                Thing one = things.get(t);
                for (int bite = bite(t, t == jarred); bite > 0; bite--) {
                    if (one.coat > 0) {
                        one.coat--;
                    } else if (one.rust < 999) {
                        one.rust++;
                    }
                }
            }
            for (Thing t : things) {
                if (t.oil > 0) {
                    t.oil--;
                }
            }
        }

        State in(int years) {
            State c = copy();
            for (int i = 0; i < years; i++) {
                c.tick(-1);
            }
            return c;
        }

        int rust() {
            return things.stream().mapToInt(t -> t.rust).sum();
        }

        int set(boolean ofPeople, java.util.function.IntPredicate in) {
            int set = 0;
            for (int i = 0; i < (ofPeople ? people.size() : things.size()); i++) {
                set += in.test(i) ? 1 << i : 0;
            }
            return set;
        }

        int throughSet() {
            return set(false, t -> things.get(t).through());
        }
    }

    int status;
    long top = 0;
    long bottom = 1;
    final long[][] trays = new long[4][];
    final int[] sorts = new int[4];
    final List<Byte> tape = new ArrayList<>();
    int faultKind = -1;
    int faultPlace = -1;
    State s = new State();
    final List<State> marks = new ArrayList<>();
    int[] lived;

    private int number(IntSupplier body) {
        status = 0;
        try {
            return body.getAsInt();
        } catch (Refused r) {
            status = r.status;
            return -1;
        }
    }

    private boolean flag(Runnable body) {
        return number(() -> {
            body.run();
            return 1;
        }) == 1;
    }

    private static void no(int status, boolean holds) {
        if (holds) {
            throw new Refused(status);
        }
    }

    private static void range(int n, int least, int most) {
        no(5, n < least || n > most);
    }

    private void tray(int t) {
        no(1, t < 0 || t > 3);
        no(3, trays[t] == null);
    }

    private void isPerson(int p) {
        no(2, p < 0 || p >= s.people.size());
    }

    private void isThing(int t) {
        no(2, t < 0 || t >= s.things.size());
    }

    private void told(long a, long b) {
        long g = java.math.BigInteger.valueOf(a).gcd(java.math.BigInteger.valueOf(b)).longValue();
        top = a / g;
        bottom = b / g;
    }

    boolean tray(int tray, int sort, int many) {
        return flag(() -> {
            no(1, tray < 0 || tray > 3 || sort < 0 || sort > 3);
            no(5, many > 60);
            no(6, many < 0);
            trays[tray] = new long[many];
            sorts[tray] = sort;
        });
    }

    private void put(int tray, int place, long v) {
        int spare = 64 - (8 << sorts[tray]);
        trays[tray][place] = v << spare >> spare;
    }

    boolean write(int tray, int place, long v) {
        return flag(() -> {
            tray(tray);
            no(4, place < 0 || place >= trays[tray].length);
            put(tray, place, v);
        });
    }

    long read(int tray, int place) {
        boolean fine = flag(() -> {
            tray(tray);
            no(4, place < 0 || place >= trays[tray].length);
        });
        return fine ? trays[tray][place] : -1;
    }

    boolean pour(int tray, int i, int to, int j, int many) {
        return flag(() -> {
            no(1, tray < 0 || tray > 3 || to < 0 || to > 3);
            no(3, trays[tray] == null || trays[to] == null);
            no(11, sorts[tray] != sorts[to]);
            no(6, many < 0);
            no(4, i < 0 || j < 0 || (long) i + many > trays[tray].length || (long) j + many > trays[to].length);
            long[] as = trays[tray].clone();
            for (int k = 0; k < many; k++) {
                trays[to][j + k] = as[i + k];
            }
        });
    }

    int feed(int a, int b, int c, int d, int e) {
        if (tape.size() + 20 > 900) {
            return -1;
        }
        for (int n : new int[] {a, b, c, d, e}) {
            tape.add((byte) (n >>> 24));
            tape.add((byte) (n >>> 16));
            tape.add((byte) (n >>> 8));
            tape.add((byte) n);
        }
        return tape.size();
    }

    // Texts: all TOKENS first, each with its place.

    static final class Token {
        final char sort;
        final String text;
        final int place;
        Token(char sort, String text, int place) {
            this.sort = sort;
            this.text = text;
            this.place = place;
        }
    }

    private List<Token> tokens;
    private int next;

    private static List<Token> scan(String text) {
        List<Token> all = new ArrayList<>();
        java.util.regex.Matcher m = java.util.regex.Pattern.compile("[\\n ]+|([a-z]+)|([0-9]+)|([;<>=])|(.)",
            java.util.regex.Pattern.DOTALL).matcher(text);
        while (m.find()) {
            if (m.group(1) != null) {
                all.add(new Token('w', m.group(), m.start()));
            } else if (m.group(2) != null) {
                all.add(new Token(m.group().length() > 4 ? '!' : 'n', m.group(), m.start()));
            } else if (m.group(3) != null) {
                all.add(new Token('s', m.group(), m.start()));
            } else if (m.group(4) != null) {
                all.add(new Token('!', m.group(), m.start()));
            }
        }
        all.add(new Token('e', "", text.length()));
        return all;
    }

    private Token now() {
        Token t = tokens.get(next);
        if (t.sort == '!') {
            throw new Faulty(1, t.place);
        }
        return t;
    }

    private Token must(boolean holds, int kind) {
        Token t = now();
        if (!holds) {
            throw new Faulty(kind, t.place);
        }
        return t;
    }

    private boolean at(String text) {
        return now().text.equals(text) && now().sort != 'e';
    }

    private void eat(String text) {
        must(at(text), 2);
        next++;
    }

    private int eatNumber(int least, int most) {
        Token t = must(now().sort == 'n', 2);
        int n = Integer.parseInt(t.text);
        must(n >= least && n <= most, 4);
        next++;
        return n;
    }

    private String eatName() {
        Token t = must(now().sort == 'w' && now().text.length() <= 8 && !RESERVED.contains(now().text), 2);
        next++;
        return t.text;
    }

    private int eatPerson(State f) {
        String name = eatName();
        for (int i = 0; i < f.people.size(); i++) {
            if (name.equals(f.people.get(i).name)) {
                return i;
            }
        }
        throw new Faulty(3, tokens.get(next - 1).place);
    }

    private int eatThing(State f) {
        String name = eatName();
        for (int i = 0; i < f.things.size(); i++) {
            if (name.equals(f.things.get(i).name)) {
                return i;
            }
        }
        throw new Faulty(3, tokens.get(next - 1).place);
    }

    private String eatNewName(State f) {
        String name = eatName();
        boolean taken = f.people.stream().anyMatch(p -> name.equals(p.name))
            || f.things.stream().anyMatch(t -> name.equals(t.name));
        if (taken) {
            throw new Faulty(3, tokens.get(next - 1).place);
        }
        return name;
    }

    private void eatPart(State f, Set<String> told) {
        String word = must(now().sort == 'w', 2).text;
        int rule = Arrays.asList("shows", "life", "damp", "breath").indexOf(word);
        if (rule >= 0) {
            must(told.add(word), 5);
            next++;
            f.rules[rule + 2] = eatNumber(rule == 1 ? 1 : 0, new int[] {99, 120, 9, 99}[rule]);
        } else if (word.equals("person")) {
            must(f.people.size() < 6, 6);
            next++;
            Person p = new Person();
            p.name = eatNewName(f);
            eat("age");
            p.age = eatNumber(0, 119);
            p.of = at("of");
            next += p.of ? 1 : 0;
            f.people.add(p);
        } else if (word.equals("thing")) {
            must(f.things.size() < 8, 6);
            next++;
            Thing t = new Thing();
            t.name = eatNewName(f);
            eat("thick");
            t.thick = eatNumber(1, 999);
            if (at("coat")) {
                next++;
                t.coat = eatNumber(0, 999);
            }
            f.things.add(t);
        } else {
            eat("loves");
            int p = eatPerson(f);
            int t = eatThing(f);
            f.people.get(p).love[t] = eatNumber(0, 9);
        }
        eat(";");
    }

    private int stepsRead;

    private List<Step> eatSteps(int depth) {
        List<Step> all = new ArrayList<>();
        while (now().sort != 'e' && !at("end")) {
            all.add(eatStep(depth));
        }
        return all;
    }

    private Step eatStep(int depth) {
        Step step = new Step();
        step.word = now().text;
        must(now().sort == 'w' && Arrays.asList("year", "oil", "loves", "damp", "coat", "mend", "any", "when", "loop",
            "stop").contains(step.word), 2);
        must(stepsRead < 30, 6);
        boolean block = step.word.equals("when") || step.word.equals("loop");
        must(!block || depth < 3, 7);
        stepsRead++;
        next++;
        switch (step.word) {
            case "year": step.much = eatNumber(1, 20); break;
            case "oil": case "mend": step.what = eatThing(s); break;
            case "loves": step.who = eatPerson(s); step.what = eatThing(s); step.much = eatNumber(0, 9); break;
            case "damp": step.much = eatNumber(0, 9); break;
            case "coat": step.what = eatThing(s); step.much = eatNumber(1, 99); break;
            case "loop": step.much = eatNumber(1, 99); break;
            case "when": eatTest(step); break;
            default: break;
        }
        eat(";");
        if (block) {
            step.body = eatSteps(depth + 1);
            eat("end");
            eat(";");
        }
        return step;
    }

    private void eatTest(Step step) {
        step.test = now().text;
        if (at("through")) {
            next++;
            step.what = eatThing(s);
        } else if (at("shows")) {
            next++;
            step.who = eatPerson(s);
        } else {
            eat("rust");
            step.what = eatThing(s);
            step.sign = must(at("<") || at(">") || at("="), 2).text;
            next++;
            step.much = eatNumber(0, 999);
        }
    }

    private void open(int n) {
        char[] signs = new char[n];
        for (int i = 0; i < n; i++) {
            signs[i] = (char) (tape.get(i) & 255);
        }
        tape.clear();
        tokens = scan(new String(signs));
        next = 0;
        faultKind = 0;
        faultPlace = -1;
    }

    private void faulty(Faulty f) {
        faultKind = f.kind;
        faultPlace = f.place;
        throw new Refused(10);
    }

    int family(int n) {
        return number(() -> {
            range(n, 0, tape.size());
            open(n);
            try {
                State f = new State();
                Set<String> told = new HashSet<>();
                while (now().sort != 'e') {
                    eatPart(f, told);
                }
                s = f;
            } catch (Faulty f) {
                faulty(f);
            }
            return s.things.size();
        });
    }

    int years(int n) {
        return number(() -> {
            range(n, 0, Math.min(300, tape.size()));
            open(n);
            try {
                stepsRead = 0;
                List<Step> plan = eatSteps(0);
                must(now().sort == 'e', 2);
                s.plan = plan;
            } catch (Faulty f) {
                faulty(f);
            }
            return stepsRead;
        });
    }

    int fault(int what) {
        return what == 0 ? faultKind : what == 1 ? faultPlace : -1;
    }

    int many(int what) {
        return number(() -> {
            range(what, 0, 11);
            switch (what) {
                case 0: return s.people.size();
                case 1: return s.things.size();
                case 6: return s.year;
                case 7: return s.set(true, p -> s.people.get(p).lives);
                case 8: return s.set(true, s::shows);
                case 9: return s.throughSet();
                case 10: return s.set(false, t -> s.things.get(t).oil > 0);
                case 11: return s.rust();
                default: return s.rules[what];
            }
        });
    }

    int person(int person, int what) {
        return number(() -> {
            isPerson(person);
            range(what, 0, 4);
            Person p = s.people.get(person);
            int[] all = {p.age, p.of ? 1 : 0, p.lives ? 1 : 0, s.shows(person) ? 1 : 0,
                s.set(false, t -> p.love[t] > 0)};
            return all[what];
        });
    }

    int thing(int thing, int what) {
        return number(() -> {
            isThing(thing);
            range(what, 0, 6);
            Thing t = s.things.get(thing);
            int[] all = {t.thick, t.coat, t.rust, t.oil, s.loved(thing), s.bite(thing, false), t.through() ? 1 : 0};
            return all[what];
        });
    }

    int love(int person, int thing) {
        return number(() -> {
            isPerson(person);
            isThing(thing);
            return s.people.get(person).love[thing];
        });
    }

    int copyRust(int tray) {
        return number(() -> {
            tray(tray);
            no(4, trays[tray].length < s.things.size());
            for (int t = 0; t < s.things.size(); t++) {
                put(tray, t, s.things.get(t).rust);
            }
            return s.things.size();
        });
    }

    int year(int years) {
        return number(() -> {
            range(years, 1, 99);
            no(7, s.year + years > 9999);
            int before = s.throughSet();
            for (int i = 0; i < years; i++) {
                s.tick(-1);
                s.year++;
            }
            return s.throughSet() - before;
        });
    }

    int dote(int person, int thing, int much) {
        return number(() -> {
            isPerson(person);
            isThing(thing);
            range(much, 0, 9);
            int old = s.people.get(person).love[thing];
            no(9, old == much);
            s.people.get(person).love[thing] = much;
            return old;
        });
    }

    int oil(int thing) {
        return number(() -> {
            isThing(thing);
            no(9, s.things.get(thing).through());
            s.things.get(thing).oil = 3;
            return 3;
        });
    }

    int coat(int thing, int much) {
        return number(() -> {
            isThing(thing);
            range(much, 1, 999);
            Thing t = s.things.get(thing);
            no(9, t.through());
            t.coat = Math.min(999, t.coat + much);
            return t.coat;
        });
    }

    int mend(int thing) {
        return number(() -> {
            isThing(thing);
            Thing t = s.things.get(thing);
            no(9, t.through());
            t.rust -= (t.rust + 1) / 2;
            return t.rust;
        });
    }

    int breathe(int thing) {
        return number(() -> {
            isThing(thing);
            Thing t = s.things.get(thing);
            no(9, t.through());
            t.rust = Math.min(999, t.rust + s.rules[5]);
            return t.rust;
        });
    }

    int forge(int thick) {
        return number(() -> {
            range(thick, 1, 999);
            no(7, s.things.size() == 8);
            Thing t = new Thing();
            t.thick = thick;
            s.things.add(t);
            return s.things.size() - 1;
        });
    }

    int born(int age, boolean of) {
        return number(() -> {
            range(age, 0, 119);
            no(7, s.people.size() == 6);
            Person p = new Person();
            p.age = age;
            p.of = of;
            s.people.add(p);
            return s.people.size() - 1;
        });
    }

    boolean rule(int what, int much) {
        return flag(() -> {
            range(what, 2, 5);
            range(much, what == 3 ? 1 : 0, new int[] {99, 120, 9, 99}[what - 2]);
            s.rules[what] = much;
        });
    }

    int rustIn(int thing, int years) {
        return number(() -> {
            isThing(thing);
            range(years, 0, 200);
            return s.in(years).things.get(thing).rust;
        });
    }

    private int throughYear(int thing) {
        State c = s.copy();
        for (int i = 0; i <= 200; i++) {
            if (c.things.get(thing).through()) {
                return i;
            }
            c.tick(-1);
        }
        return -1;
    }

    int throughIn(int thing) {
        return number(() -> {
            isThing(thing);
            int year = throughYear(thing);
            no(8, year < 0);
            return year;
        });
    }

    int firstThrough() {
        return number(() -> {
            State c = s.copy();
            for (int i = 0; i <= 200; i++) {
                for (int t = 0; t < c.things.size(); t++) {
                    if (c.things.get(t).through()) {
                        return t;
                    }
                }
                c.tick(-1);
            }
            throw new Refused(8);
        });
    }

    int throughBy(int years) {
        return number(() -> {
            range(years, 0, 200);
            return s.in(years).throughSet();
        });
    }

    int showsIn(int person) {
        return number(() -> {
            isPerson(person);
            State c = s.copy();
            for (int i = 0; i <= 200; i++) {
                if (c.shows(person)) {
                    return i;
                }
                c.tick(-1);
            }
            throw new Refused(8);
        });
    }

    int diesIn(int person) {
        return number(() -> {
            isPerson(person);
            no(8, !s.people.get(person).lives);
            State c = s.copy();
            for (int i = 1; i <= 200; i++) {
                c.tick(-1);
                if (!c.people.get(person).lives) {
                    return i;
                }
            }
            throw new Refused(99);
        });
    }

    int worst(int years) {
        return number(() -> {
            range(years, 0, 50);
            no(8, s.people.isEmpty());
            int best = -1;
            int least = Integer.MAX_VALUE;
            for (int p = 0; p < s.people.size(); p++) {
                State c = s.copy();
                Arrays.fill(c.people.get(p).love, 0);
                int rust = c.in(years).rust();
                if (rust < least) {
                    least = rust;
                    best = p;
                }
            }
            return best;
        });
    }

    private int fewest(int thing, int n) {
        int fewest = -1;
        for (int mask = 0; mask < 1 << n; mask++) {
            State c = s.copy();
            for (int i = 0; i < n; i++) {
                c.tick((mask >> i & 1) != 0 ? thing : -1);
            }
            if (!c.things.get(thing).through() && (fewest < 0 || Integer.bitCount(mask) < fewest)) {
                fewest = Integer.bitCount(mask);
            }
        }
        return fewest;
    }

    int jars(int thing, int n) {
        return number(() -> {
            isThing(thing);
            range(n, 0, 8);
            int jars = fewest(thing, n);
            no(8, jars < 0);
            return jars;
        });
    }

    private static void isSet(int set, int many) {
        no(5, set < 0 || set >> many != 0);
    }

    int jarsFor(int things, int n) {
        return number(() -> {
            isSet(things, s.things.size());
            range(n, 0, 8);
            int all = 0;
            for (int t = 0; t < s.things.size(); t++) {
                if ((things >> t & 1) != 0) {
                    int jars = fewest(t, n);
                    no(8, jars < 0);
                    all += jars;
                }
            }
            return all;
        });
    }

    int less(int person, int thing, int n) {
        return number(() -> {
            isPerson(person);
            isThing(thing);
            range(n, 0, 50);
            for (int points = 0; points <= s.people.get(person).love[thing]; points++) {
                State c = s.copy();
                c.people.get(person).love[thing] -= points;
                if (!c.in(n).things.get(thing).through()) {
                    return points;
                }
            }
            throw new Refused(8);
        });
    }

    /** All ways: by each PERSON in whom it SHOWS his love, by others 0. */
    private List<int[]> ways(int tray, int n) {
        tray(tray);
        no(4, 2L * n > trays[tray].length);
        range(n, 0, 20);
        for (int i = 0; i < n; i++) {
            no(5, trays[tray][2 * i] < 0 || trays[tray][2 * i] > 9 || trays[tray][2 * i + 1] < 0);
        }
        List<int[]> all = new ArrayList<>();
        all.add(new int[6]);
        for (int p = 0; p < s.people.size(); p++) {
            if (s.shows(p)) {
                List<int[]> more = new ArrayList<>();
                for (int[] way : all) {
                    for (int love = 0; love <= 3; love++) {
                        int[] w = way.clone();
                        w[p] = love;
                        more.add(w);
                    }
                }
                all = more;
            }
        }
        all.removeIf(way -> {
            for (int i = 0; i < n; i++) {
                if (Arrays.stream(way).sum() * trays[tray][2 * i] / 4 != trays[tray][2 * i + 1]) {
                    return true;
                }
            }
            return false;
        });
        return all;
    }

    int seen(int tray, int n) {
        return number(() -> ways(tray, n).size());
    }

    int sure(int person, int tray, int n) {
        return number(() -> {
            no(1, tray < 0 || tray > 3);
            isPerson(person);
            List<int[]> all = ways(tray, n);
            no(8, !s.shows(person) || all.isEmpty());
            int love = all.get(0)[person];
            no(8, all.stream().anyMatch(way -> way[person] != love));
            return love;
        });
    }

    int ask(int tray, int n) {
        return number(() -> {
            List<int[]> all = ways(tray, n);
            no(8, all.size() < 2);
            int best = 0;
            long most = 0;
            for (int damp = 1; damp <= 9; damp++) {
                int d = damp;
                long unlike = all.stream().mapToInt(way -> Arrays.stream(way).sum() * d / 4).distinct().count();
                if (unlike > most) {
                    most = unlike;
                    best = damp;
                }
            }
            return best;
        });
    }

    private int[] bestKeeping;
    private int bestLoves;

    private void tryKeepings(int people, int p, int[] kept, int loves, boolean nothingToo) {
        if (p == s.people.size()) {
            if (nothingToo) {
                bestLoves += isStable(people, kept) ? 1 : 0;
            } else if (bestKeeping == null || loves < bestLoves) {
                bestKeeping = kept.clone();
                bestLoves = loves;
            }
            return;
        }
        if ((people >> p & 1) == 0 || nothingToo) {
            tryKeepings(people, p + 1, kept, loves, nothingToo);
        }
        for (int t = 0; t < s.things.size() && (people >> p & 1) != 0; t++) {
            int thing = t;
            if (!s.things.get(t).through() && Arrays.stream(kept).noneMatch(k -> k == thing)) {
                kept[p] = t;
                tryKeepings(people, p + 1, kept, loves + s.people.get(p).love[t], nothingToo);
                kept[p] = -1;
            }
        }
    }

    private boolean isStable(int people, int[] kept) {
        for (int p = 0; p < s.people.size(); p++) {
            for (int t = 0; t < s.things.size() && (people >> p & 1) != 0; t++) {
                int love = s.people.get(p).love[t];
                int mine = kept[p] < 0 ? 0 : s.people.get(p).love[kept[p]];
                int keeper = -1;
                for (int q = 0; q < 6; q++) {
                    keeper = kept[q] == t ? q : keeper;
                }
                boolean itWould = keeper < 0 || s.people.get(keeper).love[t] > love;
                if (!s.things.get(t).through() && love > mine && itWould) {
                    return false;
                }
            }
        }
        return true;
    }

    private void findKeeping(int people) {
        bestKeeping = null;
        bestLoves = 0;
        tryKeepings(people, 0, new int[] {-1, -1, -1, -1, -1, -1}, 0, false);
        no(8, bestKeeping == null);
    }

    int keeping(int people) {
        return number(() -> {
            isSet(people, s.people.size());
            findKeeping(people);
            return bestLoves;
        });
    }

    private void isMember(int people, int person) {
        isPerson(person);
        isSet(people, s.people.size());
        no(5, (people >> person & 1) == 0);
    }

    int keeps(int people, int person) {
        return number(() -> {
            isMember(people, person);
            findKeeping(people);
            return bestKeeping[person];
        });
    }

    int stable(int people, int person) {
        return number(() -> {
            isMember(people, person);
            int[] kept = {-1, -1, -1, -1, -1, -1};
            boolean[][] asked = new boolean[6][8];
            boolean again = true;
            while (again) {
                again = false;
                for (int p = 0; p < s.people.size() && !again; p++) {
                    int most = -1;
                    for (int t = 0; t < s.things.size(); t++) {
                        int[] love = s.people.get(p).love;
                        if ((people >> p & 1) != 0 && kept[p] < 0 && !asked[p][t] && love[t] > 0
                            && !s.things.get(t).through() && (most < 0 || love[t] > love[most])) {
                            most = t;
                        }
                    }
                    if (most >= 0) {
                        again = true;
                        asked[p][most] = true;
                        int keeper = -1;
                        for (int q = 0; q < 6; q++) {
                            keeper = kept[q] == most ? q : keeper;
                        }
                        if (keeper < 0) {
                            kept[p] = most;
                        } else if (s.people.get(keeper).love[most] > s.people.get(p).love[most]) {
                            kept[keeper] = -1;
                            kept[p] = most;
                        }
                    }
                }
            }
            no(8, kept[person] < 0);
            return kept[person];
        });
    }

    int stables(int people) {
        return number(() -> {
            isSet(people, s.people.size());
            no(5, Integer.bitCount(people) > 4);
            bestLoves = 0;
            tryKeepings(people, 0, new int[] {-1, -1, -1, -1, -1, -1}, 0, true);
            return bestLoves;
        });
    }

    /** The value for who has the turn, and his move. */
    private static int[] best(State now, int own, int other, int turns) {
        if (turns == 0) {
            int diff = now.things.get(other).rust - now.things.get(own).rust;
            return new int[] {diff, -1};
        }
        int[] best = null;
        for (int move = 0; move < 3; move++) {
            State c = now.copy();
            Thing mine = c.things.get(own);
            Thing his = c.things.get(other);
            if (move == 0 && !his.through()) {
                his.rust = Math.min(999, his.rust + c.rules[5]);
            } else if (move == 1 && !mine.through()) {
                mine.oil = 3;
            } else if (move != 2) {
                continue;
            }
            c.tick(-1);
            int value = -best(c, other, own, turns - 1)[0];
            if (best == null || value > best[0]) {
                best = new int[] {value, move};
            }
        }
        return best;
    }

    int game(int thing, int other, int turns) {
        return number(() -> {
            isThing(thing);
            isThing(other);
            no(5, thing == other);
            range(turns, 0, 4);
            return best(s, thing, other, turns)[0];
        });
    }

    int moveOf(int thing, int other, int turns) {
        return number(() -> {
            isThing(thing);
            isThing(other);
            no(5, thing == other);
            range(turns, 1, 4);
            return best(s, thing, other, turns)[1];
        });
    }

    private static void ends(State now, int thing, int n, int[] rusts) {
        if (n == 0) {
            rusts[now.things.get(thing).rust]++;
            return;
        }
        for (int damp = 0; damp <= 9; damp++) {
            State c = now.copy();
            c.rules[4] = damp;
            c.tick(-1);
            ends(c, thing, n - 1, rusts);
        }
    }

    private int[] rustEnds(int thing, int thick, int n) {
        State c = s.copy();
        c.things.get(thing).thick = thick;
        int[] rusts = new int[1000];
        ends(c, thing, n, rusts);
        return rusts;
    }

    private static int below(int[] rusts, int thick) {
        return Arrays.stream(rusts, 0, thick).sum();
    }

    boolean lasts(int thing, int n) {
        return flag(() -> {
            isThing(thing);
            range(n, 0, 6);
            int thick = s.things.get(thing).thick;
            told(below(rustEnds(thing, thick, n), thick), (long) Math.pow(10, n));
        });
    }

    int thickFor(int thing, int n, int tenths) {
        return number(() -> {
            isThing(thing);
            range(n, 0, 6);
            range(tenths, 0, 10);
            int[] rusts = rustEnds(thing, 1000, n);
            for (int thick = 1; thick <= 999; thick++) {
                if (below(rusts, thick) * 10L >= tenths * (long) Math.pow(10, n)) {
                    return thick;
                }
            }
            throw new Refused(8);
        });
    }

    boolean blame(int person) {
        return flag(() -> {
            isPerson(person);
            int all = 0;
            int part = 0;
            for (int t = 0; t < s.things.size(); t++) {
                all += s.loved(t);
                part += s.shows(person) ? s.people.get(person).love[t] : 0;
            }
            no(8, all == 0);
            told(part, all);
        });
    }

    // LIVED: by the tree of STEPS.

    private static final class Life {
        State f;
        int drawn;
        int count;
        int missed;
        int years;

        int draw(int by) {
            drawn = (drawn * 2971 + 10831) % 65536;
            return (drawn / 8) % by;
        }

        void all(List<Step> steps) {
            for (Step step : steps) {
                if (count == 300) {
                    throw new Halt(true);
                }
                count++;
                one(step);
            }
        }

        void one(Step step) {
            Thing t = step.what < f.things.size() ? f.things.get(step.what) : null;
            switch (step.word) {
                case "year":
                    if (f.year + step.much > 9999) {
                        missed++;
                    } else {
                        for (int i = 0; i < step.much; i++) {
                            f.tick(-1);
                            f.year++;
                            years++;
                        }
                    }
                    break;
                case "oil": case "coat": case "mend":
                    if (t.through()) {
                        missed++;
                    } else if (step.word.equals("oil")) {
                        t.oil = 3;
                    } else if (step.word.equals("coat")) {
                        t.coat = Math.min(999, t.coat + step.much);
                    } else {
                        t.rust -= (t.rust + 1) / 2;
                    }
                    break;
                case "loves":
                    missed += f.people.get(step.who).love[step.what] == step.much ? 1 : 0;
                    f.people.get(step.who).love[step.what] = step.much;
                    break;
                case "damp":
                    missed += f.rules[4] == step.much ? 1 : 0;
                    f.rules[4] = step.much;
                    break;
                case "any":
                    if (f.things.isEmpty()) {
                        missed++;
                    } else {
                        f.rules[4] = draw(10);
                        Thing u = f.things.get(draw(f.things.size()));
                        if (u.through()) {
                            missed++;
                        } else {
                            u.rust = Math.min(999, u.rust + f.rules[5]);
                        }
                    }
                    break;
                case "loop":
                    for (int i = 0; i < step.much; i++) {
                        all(step.body);
                    }
                    break;
                case "when":
                    if (holds(step, t)) {
                        all(step.body);
                    }
                    break;
                default:
                    throw new Halt(false);
            }
        }

        boolean holds(Step step, Thing t) {
            if (step.test.equals("shows")) {
                return f.shows(step.who);
            }
            if (step.test.equals("through")) {
                return t.through();
            }
            int sign = Integer.signum(t.rust - step.much);
            return sign == (step.sign.equals("<") ? -1 : step.sign.equals(">") ? 1 : 0);
        }
    }

    private static int[] liveIn(State f, int seed) {
        Life life = new Life();
        life.f = f;
        life.drawn = seed;
        int before = f.throughSet();
        long living = f.people.stream().filter(p -> p.lives).count();
        int left = 0;
        try {
            life.all(f.plan);
        } catch (Halt h) {
            left = h.left ? 1 : 0;
        }
        int died = (int) (living - f.people.stream().filter(p -> p.lives).count());
        return new int[] {life.missed, life.years, Integer.bitCount(f.throughSet() & ~before), died, left,
            life.count};
    }

    int live(int seed) {
        return number(() -> {
            range(seed, 0, 9999);
            no(8, s.plan == null);
            lived = liveIn(s, seed);
            return lived[5];
        });
    }

    int lived(int what) {
        return number(() -> {
            range(what, 0, 4);
            no(8, lived == null);
            return lived[what];
        });
    }

    boolean mean(int seed, int many) {
        return flag(() -> {
            range(seed, 0, 9999);
            range(many, 1, 20);
            no(5, seed + many - 1 > 9999);
            no(8, s.plan == null);
            int all = 0;
            for (int i = 0; i < many; i++) {
                State c = s.copy();
                liveIn(c, seed + i);
                all += c.rust();
            }
            told(all, many);
        });
    }

    int mark() {
        return number(() -> {
            no(7, marks.size() == 3);
            marks.add(s.copy());
            return marks.size();
        });
    }

    int back() {
        return number(() -> {
            no(8, marks.isEmpty());
            s = marks.remove(marks.size() - 1);
            return marks.size();
        });
    }
}
