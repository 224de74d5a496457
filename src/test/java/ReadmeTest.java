import java.io.IOException;
import java.lang.reflect.InvocationTargetException;
import java.lang.reflect.Method;
import java.nio.charset.StandardCharsets;
import java.nio.file.Files;
import java.nio.file.Path;
import java.util.ArrayList;
import java.util.Arrays;
import java.util.List;
import java.util.regex.Matcher;
import java.util.regex.Pattern;

/** README.md: its calls answer what stands behind them, its tables name every call, its texts are taken. */
public final class ReadmeTest {
    /** Each call with its parameters, and with which STATUS the document refuses it. */
    private static final String CALLS = "RustFamily(): status(): top(): bottom(): tray(tray, sort, many):1 5 6"
        + " write(tray, place, v):1 3 4 read(tray, place):1 3 4 pour(tray, i, to, j, many):1 3 11 6 4"
        + " feed(a, b, c, d, e): family(n):5 10 years(n):5 10 fault(what): many(what):5 person(person, what):2 5"
        + " thing(thing, what):2 5 love(person, thing):2 copyRust(tray):1 3 4 year(years):5 7"
        + " dote(person, thing, much):2 5 9 oil(thing):2 9 coat(thing, much):2 5 9 mend(thing):2 9 breathe(thing):2 9"
        + " forge(thick):5 7 born(age, of):5 7 rule(what, much):5 rustIn(thing, years):2 5 throughIn(thing):2 8"
        + " firstThrough():8 throughBy(years):5 showsIn(person):2 8 diesIn(person):2 8 worst(years):5 8"
        + " jars(thing, n):2 5 8 jarsFor(things, n):5 8 less(person, thing, n):2 5 8 seen(tray, n):1 3 4 5"
        + " sure(person, tray, n):1 2 3 4 5 8 ask(tray, n):1 3 4 5 8 keeping(people):5 8 keeps(people, person):2 5 8"
        + " stable(people, person):2 5 8 stables(people):5 game(thing, other, turns):2 5"
        + " moveOf(thing, other, turns):2 5 lasts(thing, n):2 5 thickFor(thing, n, tenths):2 5 8 blame(person):2 8"
        + " live(seed):5 8 lived(what):5 8 mean(seed, many):5 8 mark():7 back():8";

    private ReadmeTest() {
    }

    public static void main(String[] args) throws IOException, ReflectiveOperationException {
        String readme = Files.readString(Path.of("README.md"), StandardCharsets.UTF_8);
        firstRun(readme);
        tables(readme);
        namesOfClass();
        statuses(readme);
        texts(readme);
        Check.end("ReadmeTest");
    }

    private static List<String> blocks(String readme, String sort) {
        List<String> all = new ArrayList<>();
        Matcher m = Pattern.compile("```" + sort + "\n(.*?)```", Pattern.DOTALL).matcher(readme);
        while (m.find()) {
            all.add(m.group(1));
        }
        return all;
    }

    private static void firstRun(String readme) throws ReflectiveOperationException {
        String run = blocks(readme, "java").get(1);
        Matcher line = Pattern.compile("feed\\(x, \"(.*)\"\\);|x\\.(\\w+)\\((.*)\\); *// (-?\\w+)").matcher(run);
        RustFamily x = new RustFamily();
        int asked = 0;
        while (line.find()) {
            if (line.group(1) != null) {
                Texts.feed(x, line.group(1));
            } else {
                Check.same("README: " + line.group(), answer(x, line.group(2), line.group(3)), line.group(4));
                asked++;
            }
        }
        Check.due("README: calls of its first run", asked, run.split("x\\.").length - 1);
    }

    private static String answer(RustFamily x, String name, String told) throws ReflectiveOperationException {
        String[] each = told.isEmpty() ? new String[0] : told.split(", ");
        for (Method m : RustFamily.class.getMethods()) {
            if (m.getName().equals(name) && m.getParameterCount() == each.length) {
                return String.valueOf(made(x, m, each));
            }
        }
        return "no such call";
    }

    private static Object made(RustFamily x, Method m, String[] each) throws ReflectiveOperationException {
        Object[] arguments = new Object[each.length];
        for (int i = 0; i < each.length; i++) {
            Class<?> type = m.getParameterTypes()[i];
            arguments[i] = type == boolean.class ? (Object) Boolean.valueOf(each[i])
                : type == long.class ? (Object) Long.valueOf(each[i])
                : Integer.valueOf(each[i]);
        }
        try {
            return m.invoke(x, arguments);
        } catch (InvocationTargetException e) {
            return e.getCause();
        }
    }

    private static void tables(String readme) {
        int from = readme.indexOf("\n## The calls");
        String part = readme.substring(from, readme.indexOf("\n## A refused call", from));
        List<String> named = new ArrayList<>();
        for (String row : part.split("\n")) {
            String[] cells = row.split(" *\\| *");
            Matcher call = Pattern.compile("`(\\w+\\([^`]*\\))`").matcher(cells.length > 1 ? cells[1] : "");
            while (call.find()) {
                named.add(call.group(1) + ":" + (cells.length > 3 ? cells[3].replaceAll(",.*", "") : ""));
            }
        }
        List<String> due = Arrays.asList(CALLS.split(" (?=\\w+\\()"));
        for (int i = 0; i < Math.max(named.size(), due.size()); i++) {
            Check.same("README's call " + i, i < named.size() ? named.get(i) : "none", i < due.size() ? due.get(i) : "none");
        }
    }

    /** CALLS names the public calls of the class, in its order. */
    private static void namesOfClass() throws IOException {
        String source = Files.readString(Path.of("src/main/java/RustFamily.java"), StandardCharsets.UTF_8);
        StringBuilder face = new StringBuilder();
        Matcher m = Pattern.compile("\n    public (?:\\w+ )?(\\w+\\([^)]*\\)) \\{").matcher(source);
        while (m.find()) {
            face.append(m.group(1).replaceAll("(int|long|boolean) ", "")).append('\n');
        }
        Check.same("the public calls", face.toString(), CALLS.replaceAll(":[0-9 ]*(?=\\w+\\(|$)", "\n"));
    }

    private static void statuses(String readme) {
        int from = readme.indexOf("\n| `status()` | why |");
        String part = readme.substring(from, readme.indexOf("\n\n", from));
        for (int i = 0; i <= 11; i++) {
            Check.due("README tells STATUS " + i, part.contains("\n| " + i + " | "), true);
        }
    }

    private static void texts(String readme) {
        List<String> texts = blocks(readme, "text");
        RustFamily x = new RustFamily();
        Check.fine(x, "README's FAMILY", Texts.family(x, plain(texts.get(0))), 2);
        Check.fine(x, "README's YEARS", Texts.years(x, plain(texts.get(1))), 16);
        Check.fine(x, "README's YEARS are lived", x.live(1), 8);
    }

    /** What stands behind four blanks says what the text is. */
    private static String plain(String text) {
        return text.replaceAll(" {4,}.*", "").replace("...", "any;");
    }
}
