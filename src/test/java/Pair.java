import java.lang.reflect.InvocationTargetException;
import java.lang.reflect.Method;
import java.util.ArrayList;
import java.util.Arrays;
import java.util.HashMap;
import java.util.List;
import java.util.Map;

/** A RustFamily and a Model, to which the same calls are made. */
final class Pair {
    private static final Map<String, Method> REAL = publicMethods();
    private static final Map<String, Method> PLAIN = modelMethods();
    private static final int CALLS_LIMIT = 512;
    private static final List<String> TELL_FRACTIONS = Arrays.asList("lasts", "blame", "mean");
    private static final List<String> TAKE_TEXTS = Arrays.asList("family", "years");

    final RustFamily real = new RustFamily();
    final Model plain = new Model();
    final List<String> calls = new ArrayList<>();
    private int used = 0;

    private static Map<String, Method> publicMethods() {
        Map<String, Method> all = new HashMap<>();
        for (Method m : RustFamily.class.getDeclaredMethods()) {
            if (java.lang.reflect.Modifier.isPublic(m.getModifiers())) {
                all.put(m.getName(), m);
            }
        }
        return all;
    }

    private static Map<String, Method> modelMethods() {
        Map<String, Method> all = new HashMap<>();
        for (Method m : Model.class.getDeclaredMethods()) {
            Method like = REAL.get(m.getName());
            if (like != null && Arrays.equals(like.getParameterTypes(), m.getParameterTypes())) {
                all.put(m.getName(), m);
            }
        }
        return all;
    }

    private static long asLong(Object answer) {
        return answer instanceof Boolean ? ((Boolean) answer ? 1 : 0) : ((Number) answer).longValue();
    }

    /** How many calls more may be made: what calls beyond these answer is free. */
    int left() {
        return CALLS_LIMIT - used;
    }

    /** Makes the call to both; false (and a line printed) if they answer unlike, or are unlike behind it. */
    boolean same(String name, Object... args) {
        return alike(name, args) && tellsAlike("status")
            && (!TELL_FRACTIONS.contains(name) || tellsAlike("top") && tellsAlike("bottom"))
            && (!TAKE_TEXTS.contains(name) || alike("fault", 0) && alike("fault", 1));
    }

    private boolean alike(String name, Object... args) {
        String call = name + Arrays.toString(args);
        calls.add(call);
        used++;
        try {
            long got = asLong(REAL.get(name).invoke(real, args));
            long want = asLong(PLAIN.get(name).invoke(plain, args));
            if (got != want) {
                System.out.println(call + " gave " + got + ", the model " + want);
            }
            return got == want;
        } catch (InvocationTargetException e) {
            System.out.println(call + " threw " + e.getCause());
            e.getCause().printStackTrace(System.out);
            return false;
        } catch (IllegalAccessException e) {
            throw new IllegalStateException(e);
        }
    }

    private boolean tellsAlike(String what) {
        used++;
        long got = what.equals("status") ? real.status() : what.equals("top") ? real.top() : real.bottom();
        long want = what.equals("status") ? plain.status : what.equals("top") ? plain.top : plain.bottom;
        if (got != want) {
            System.out.println(calls.get(calls.size() - 1) + ": " + what + " " + got + ", of the model " + want);
        }
        return got == want;
    }

    boolean feedText(String text) {
        boolean same = true;
        for (int i = 0; i < text.length(); i += 20) {
            int[] n = Texts.fiveInts(text, i);
            same &= alike("feed", n[0], n[1], n[2], n[3], n[4]);
        }
        return same;
    }

    /** How many calls sameState() makes. */
    int callsOfState() {
        int people = plain.s.people.size();
        int things = plain.s.things.size();
        return 12 + people * (5 + things) + things * 7 + 5 + 4;
    }

    /** All that can be asked of the state without a change, but STATUS. */
    boolean sameState() {
        boolean same = tellsAlike("top") && tellsAlike("bottom") && alike("fault", 0) && alike("fault", 1);
        for (int i = 0; i < 12; i++) {
            same &= alike("many", i);
        }
        for (int p = 0; p < plain.s.people.size(); p++) {
            for (int i = 0; i < 5; i++) {
                same &= alike("person", p, i);
            }
            for (int t = 0; t < plain.s.things.size(); t++) {
                same &= alike("love", p, t);
            }
        }
        for (int t = 0; t < plain.s.things.size(); t++) {
            for (int i = 0; i < 7; i++) {
                same &= alike("thing", t, i);
            }
        }
        for (int i = 0; i < 5; i++) {
            same &= alike("lived", i);
        }
        return same;
    }
}
