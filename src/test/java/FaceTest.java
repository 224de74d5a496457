import java.io.IOException;
import java.lang.reflect.Constructor;
import java.lang.reflect.Field;
import java.lang.reflect.Method;
import java.lang.reflect.Modifier;
import java.nio.charset.StandardCharsets;
import java.nio.file.Files;
import java.nio.file.Path;
import java.util.ArrayList;
import java.util.Arrays;
import java.util.HashSet;
import java.util.List;
import java.util.Set;
import java.util.regex.Matcher;
import java.util.regex.Pattern;

/** The public face, as the document writes it, and those rules of LANGUAGE.md that can be seen from outside. */
public final class FaceTest {
    private static final String FACE = "int status() long top() long bottom() boolean tray(int,int,int)"
        + " boolean write(int,int,long) long read(int,int) boolean pour(int,int,int,int,int)"
        + " int feed(int,int,int,int,int) int family(int) int years(int) int fault(int) int many(int)"
        + " int person(int,int) int thing(int,int) int love(int,int) int copyRust(int) int year(int)"
        + " int dote(int,int,int) int oil(int) int coat(int,int) int mend(int) int breathe(int) int forge(int)"
        + " int born(int,boolean) boolean rule(int,int) int rustIn(int,int) int throughIn(int) int firstThrough()"
        + " int throughBy(int) int showsIn(int) int diesIn(int) int worst(int) int jars(int,int) int jarsFor(int,int)"
        + " int less(int,int,int) int seen(int,int) int sure(int,int,int) int ask(int,int) int keeping(int)"
        + " int keeps(int,int) int stable(int,int) int stables(int) int game(int,int,int) int moveOf(int,int,int)"
        + " boolean lasts(int,int) int thickFor(int,int,int) boolean blame(int) int live(int) int lived(int)"
        + " boolean mean(int,int) int mark() int back()";
    private static final String BANNED = "\\b(throw|throws|try|catch|finally|synchronized|assert|double|float|Object"
        + "|Random|Thread|protected|var|Exact)\\b|->|::|\"\\s*\\+|\\+\\s*\"|Exact\\(";

    private FaceTest() {
    }

    public static void main(String[] args) throws IOException {
        face();
        insideClasses();
        source();
        Check.end("FaceTest");
    }

    private static void face() {
        Set<String> due = new HashSet<>(Arrays.asList(FACE.replaceAll("\\) ", ")!").split("!")));
        Set<String> names = new HashSet<>();
        for (Method m : RustFamily.class.getDeclaredMethods()) {
            if (Modifier.isPublic(m.getModifiers())) {
                names.add(m.getName());
                String types = Arrays.toString(m.getParameterTypes()).replaceAll("[\\[\\] ]", "");
                String told = m.getReturnType() + " " + m.getName() + "(" + types + ")";
                Check.due("the face has " + told, due.remove(told), true);
                Check.due(told + " is no static one", Modifier.isStatic(m.getModifiers()), false);
            }
        }
        Check.due("all of the face is there: " + due, due.size(), 0);
        for (Method m : RustFamily.class.getDeclaredMethods()) {
            boolean open = Modifier.isPublic(m.getModifiers());
            Check.due(m + " is private and has a name of its own",
                open || Modifier.isPrivate(m.getModifiers()) && !names.contains(m.getName()), true);
        }
        for (Field f : RustFamily.class.getDeclaredFields()) {
            Check.due(f + " is private, or NONE", Modifier.isPrivate(f.getModifiers()) || f.getName().equals("NONE"), true);
        }
        Check.due("NONE", RustFamily.NONE, -1);
        Constructor<?>[] makers = RustFamily.class.getDeclaredConstructors();
        Check.due("one constructor", makers.length, 1);
        Check.due("it is public", Modifier.isPublic(makers[0].getModifiers()), true);
        Check.due("the class is final", Modifier.isFinal(RustFamily.class.getModifiers()), true);
    }

    private static void insideClasses() {
        List<Class<?>> all = new ArrayList<>(Arrays.asList(RustFamily.class.getDeclaredClasses()));
        Check.due("at most twelve classes", all.size() + 1 <= 12, true);
        all.add(RustFamily.class);
        for (Class<?> c : all) {
            Check.due(c + " is static", c == RustFamily.class || Modifier.isStatic(c.getModifiers()), true);
            int fields = 0;
            for (Field f : c.getDeclaredFields()) {
                fields += Modifier.isStatic(f.getModifiers()) ? 0 : 1;
                Check.due(f + ": what is static is final",
                    !Modifier.isStatic(f.getModifiers()) || Modifier.isFinal(f.getModifiers()), true);
            }
            Check.due(c + " has at most twenty fields", fields <= 20, true);
            for (Method m : c.getDeclaredMethods()) {
                Check.due(m + " has a name of its own", c == RustFamily.class || !FACE.contains(" " + m.getName() + "("),
                    true);
                Check.due(m + " has at most seven parameters", m.getParameterCount() <= 7, true);
            }
        }
    }

    private static void source() throws IOException {
        String text = Files.readString(Path.of("src/main/java/RustFamily.java"), StandardCharsets.ISO_8859_1);
        String code = text.replaceAll("(?s)/\\*.*?\\*/", "").replaceAll("//[^\n]*", "");
        Matcher banned = Pattern.compile(BANNED).matcher(code);
        while (banned.find()) {
            Check.due("banned: " + banned.group(), 1, 0);
        }
        Matcher imports = Pattern.compile("import ([^;]+);").matcher(code);
        while (imports.find()) {
            Check.due("import " + imports.group(1), imports.group(1).matches("java\\.util\\.(Arrays|ArrayList|List|Iterator)"), true);
        }
        Check.due("plain signs alone", text.chars().allMatch(c -> c < 127), true);
        int longest = 0;
        int since = 0;
        for (String line : text.split("\n")) {
            since = line.matches("\\s+(public|private|static|[A-Za-z\\[\\]]+).*\\) \\{") && !line.contains("if (")
                && !line.contains("for (") ? 0 : since + 1;
            longest = line.matches("    }|        }") ? Math.max(longest, since) : longest;
        }
        Check.due("methods of at most sixty lines, here " + longest, longest <= 60, true);
    }
}
