import java.io.IOException;
import java.lang.reflect.Constructor;
import java.lang.reflect.Field;
import java.lang.reflect.Method;
import java.lang.reflect.Modifier;
import java.nio.file.Files;
import java.nio.file.Path;
import java.util.ArrayList;
import java.util.Arrays;
import java.util.List;
import java.util.Set;
import java.util.TreeSet;
import java.util.regex.Matcher;
import java.util.regex.Pattern;

/** The public face of the document, and those rules of LANGUAGE.md that the source itself shows. */
public final class FaceTest {
    private static final String[] FACE = {
        "sign(int)int", "end(int)boolean", "ship()int", "rocks()int", "messes()int", "rule()int",
        "post(int,int)int!", "rock(int,int)int!", "mess(int,int)int!", "way(int,int)int!",
        "sheet(int,int,int,int)int", "delay()int", "order(int)int", "pass(int,int,int)int",
        "cook(int,int)int", "steps(int)int", "voyage()int", "undo()int", "lane(int)int",
        "strikes()int", "clears()int", "plan(int)int", "latest(int)int", "lanes(int)int",
        "safest(int)int", "late(int)int", "comes(int)int", "relay(int)int", "fewest(int)int",
        "word(int,int)int", "survives(int,int)int", "lives(int)int", "shares(int)int",
        "fast(int)int", "seen(int,int)int", "forget()int", "ordered()int", "unsure()int",
        "boy(int,int)int", "meets(int)int", "knows(int,int)int", "mutiny(int,int,int)int",
        "chance(int,int,int)int", "voyages(int,int)int", "keep(int)boolean", "again(int)boolean",
        "count(int)int", "row(int)long!"};

    private FaceTest() {
    }

    public static void main(String[] args) throws IOException {
        Class<?> c = NobodyBeenAft.class;
        Set<String> names = new TreeSet<>();
        same("methods", methods(c, names), new TreeSet<>(Arrays.asList(FACE)));
        Check.is("public final", c.getModifiers(), Modifier.PUBLIC | Modifier.FINAL);
        Check.is("no package", c.getPackageName().length(), 0);
        Check.is("constructors", c.getDeclaredConstructors().length, 1);
        Constructor<?> made = c.getDeclaredConstructors()[0];
        Check.is("constructor", made.getModifiers() == Modifier.PUBLIC && made.getParameterCount() == 0,
            true);
        List<Class<?>> all = new ArrayList<>(List.of(c));
        all.addAll(Arrays.asList(c.getDeclaredClasses()));
        Check.is("at most twelve classes", all.size() <= 12, true);
        for (Class<?> k : all) {
            look(k, c, names);
        }
        source(Files.readString(Path.of("src/main/java/NobodyBeenAft.java")));
        Check.close("FaceTest");
    }

    private static void same(String what, Set<String> got, Set<String> due) {
        Check.is(what + " " + got + " for " + due, got.equals(due), true);
    }

    private static Set<String> methods(Class<?> c, Set<String> names) {
        Set<String> got = new TreeSet<>();
        for (Method m : c.getDeclaredMethods()) {
            if (!Modifier.isPrivate(m.getModifiers())) {
                StringBuilder b = new StringBuilder(m.getName()).append('(');
                for (Class<?> p : m.getParameterTypes()) {
                    b.append(b.charAt(b.length() - 1) == '(' ? "" : ",").append(p.getName());
                }
                b.append(')').append(m.getReturnType().getName());
                b.append(m.getExceptionTypes().length > 0 ? "!" : "");
                got.add(b.toString());
                names.add(m.getName());
                Check.is(b + " is public alone", m.getModifiers(), Modifier.PUBLIC);
            }
        }
        return got;
    }

    private static void look(Class<?> k, Class<?> face, Set<String> names) {
        int own = 0;
        for (Field f : k.getDeclaredFields()) {
            int how = f.getModifiers();
            String what = k.getSimpleName() + "." + f.getName();
            if (Modifier.isStatic(how)) {
                Check.is(what + " is final", Modifier.isFinal(how), true);
            } else {
                own++;
            }
            if (k == face) {
                boolean none = f.getName().equals("NONE");
                Check.is(what + " is hidden", Modifier.isPrivate(how), !none);
                Check.is(what + " is public", Modifier.isPublic(how), none);
            }
        }
        Check.is(k.getSimpleName() + " has at most twenty fields", own <= 20, true);
        for (Method m : k.getDeclaredMethods()) {
            boolean shown = k == face && Modifier.isPublic(m.getModifiers());
            String what = k.getSimpleName() + "." + m.getName();
            Check.is(what + " bears a name of its own", names.contains(m.getName()), shown);
            Check.is(what + " takes at most seven", m.getParameterCount() <= 7, true);
        }
        if (k != face) {
            Check.is(k + " is static", Modifier.isStatic(k.getModifiers()), true);
            Check.is(k + " is not public",
                (k.getModifiers() & (Modifier.PUBLIC | Modifier.PROTECTED)) == 0, true);
        }
    }

    private static void source(String text) {
        for (int i = 0; i < text.length(); i++) {
            if (text.charAt(i) < 1 || text.charAt(i) > 127) {
                Check.is("sign " + i + " is ASCII", text.charAt(i), '?');
            }
        }
        String code = text.replaceAll("(?s)/\\*.*?\\*/", "").replaceAll("//[^\n]*", "");
        String[] banned = {"->", "::", "instanceof", "synchronized", "assert ", "finally", "catch",
            "try ", "Exact(", "getMessage", "System.out", "System.err", "nanoTime", "currentTime",
            "Random", "Thread", "String.format", ".equals(", "hashCode", "toString", "package ", "Object",
            "static {", "List", "Map", "Stream", "@"};
        for (String b : banned) {
            Check.is("no " + b, code.contains(b), false);
        }
        Matcher imports = Pattern.compile("import ([^;]*);").matcher(code);
        while (imports.find()) {
            Check.is("import " + imports.group(1),
                Set.of("java.util.Arrays", "java.util.NoSuchElementException").contains(imports.group(1)), true);
        }
        Matcher calls = Pattern.compile("\\b(Math|System|Arrays|Integer|Long)\\.([a-zA-Z_]+)").matcher(code);
        Set<String> free = Set.of("Math.max", "Math.min", "Math.abs", "System.arraycopy", "Arrays.fill",
            "Integer.bitCount");
        while (calls.find()) {
            Check.is("the library: " + calls.group(), free.contains(calls.group()), true);
        }
        Matcher thrown = Pattern.compile("throw ([^;]*);").matcher(code);
        while (thrown.find()) {
            Check.is("throw " + thrown.group(1),
                thrown.group(1).equals("new NoSuchElementException()"), true);
        }
        lengths(text.split("\n"));
    }

    private static void lengths(String[] lines) {
        Pattern head = Pattern.compile(
            "^( {4}| {8})(public |private |static )*(int|long|boolean|void|[A-Z]\\w*)?(\\[\\])* ?\\w+\\(.*\\{$");
        int[] from = {0, 0};
        int found = 0;
        for (int i = 0; i < lines.length; i++) {
            Check.is("line " + (i + 1) + " is no longer than 120", lines[i].length() <= 120, true);
            boolean word = lines[i].trim().matches("(if|for|while|switch) .*");
            if (!word && head.matcher(lines[i]).matches()) {
                from[lines[i].startsWith("        ") ? 1 : 0] = i;
                found++;
            }
            boolean inner = lines[i].equals("        }") && from[1] > from[0];
            if (inner || lines[i].equals("    }") && from[0] > from[1]) {
                int start = from[inner ? 1 : 0];
                Check.is("method at line " + (start + 1) + " is short", i - start < 60, true);
            }
        }
        Check.is("methods are found", found > 100, true);
    }
}
