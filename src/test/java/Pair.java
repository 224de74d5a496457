import java.lang.reflect.InvocationTargetException;
import java.lang.reflect.Method;
import java.util.ArrayList;
import java.util.Arrays;
import java.util.HashMap;
import java.util.List;
import java.util.Map;

/** A RustFamily and a Model, to which the same calls are made. */
final class Pair {
    private static final Map<String, Method> REAL = publicMethods();
    private static final Map<String, Method> PLAIN = modelMethods();

    final RustFamily real = new RustFamily();
    final Model plain = new Model();
    final List<String> calls = new ArrayList<>();

    private static Map<String, Method> publicMethods() {
        Map<String, Method> all = new HashMap<>();
        for (Method m : RustFamily.class.getDeclaredMethods()) {
            if (java.lang.reflect.Modifier.isPublic(m.getModifiers())) {
                all.put(m.getName(), m);
            }
        }
        return all;
    }

    private static Map<String, Method> modelMethods() {
        Map<String, Method> all = new HashMap<>();
        for (Method m : Model.class.getDeclaredMethods()) {
            Method like = REAL.get(m.getName());
            if (like != null && Arrays.equals(like.getParameterTypes(), m.getParameterTypes())) {
                all.put(m.getName(), m);
            }
        }
        return all;
    }

    private static long asLong(Object answer) {
        return answer instanceof Boolean ? ((Boolean) answer ? 1 : 0) : ((Number) answer).longValue();
    }

    /** Makes the call to both; false (and a line printed) if they answer unlike, or are unlike behind it. */
    boolean same(String name, Object... args) {
        String call = name + Arrays.toString(args);
        calls.add(call);
        try {
            long got = asLong(REAL.get(name).invoke(real, args));
            long want = asLong(PLAIN.get(name).invoke(plain, args));
            String gotAll = got + told(real.status(), real.top(), real.bottom(), real.fault(0), real.fault(1));
            String wantAll = want
                + told(plain.status, plain.top, plain.bottom, plain.faultKind, plain.faultPlace);
            if (!gotAll.equals(wantAll)) {
                System.out.println(call + " gave " + gotAll + ", the model " + wantAll);
                return false;
            }
            return true;
        } catch (InvocationTargetException e) {
            System.out.println(call + " threw " + e.getCause());
            e.getCause().printStackTrace(System.out);
            return false;
        } catch (IllegalAccessException e) {
            throw new IllegalStateException(e);
        }
    }

    private static String told(int status, long top, long bottom, int fault, int place) {
        return " (status " + status + ", " + top + "/" + bottom + ", fault " + fault + " at " + place + ")";
    }

    boolean feedText(String text) {
        boolean same = true;
        for (int i = 0; i < text.length(); i += 20) {
            int[] n = Texts.fiveInts(text, i);
            same &= same("feed", n[0], n[1], n[2], n[3], n[4]);
        }
        return same;
    }

    /** All that can be asked of the state without a change. */
    boolean sameState() {
        boolean same = true;
        for (int i = 0; i < 12; i++) {
            same &= same("many", i);
        }
        for (int p = 0; p < real.many(0); p++) {
            for (int i = 0; i < 5; i++) {
                same &= same("person", p, i);
            }
            for (int t = 0; t < real.many(1); t++) {
                same &= same("love", p, t);
            }
        }
        for (int t = 0; t < real.many(1); t++) {
            for (int i = 0; i < 7; i++) {
                same &= same("thing", t, i);
            }
        }
        for (int i = 0; i < 5; i++) {
            same &= same("lived", i);
        }
        return same;
    }
}
