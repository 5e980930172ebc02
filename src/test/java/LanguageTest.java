import java.io.IOException;
import java.lang.reflect.Array;
import java.lang.reflect.Constructor;
import java.lang.reflect.Field;
import java.lang.reflect.Method;
import java.lang.reflect.Modifier;
import java.nio.file.Files;
import java.nio.file.Path;
import java.util.ArrayDeque;
import java.util.ArrayList;
import java.util.Collections;
import java.util.IdentityHashMap;
import java.util.List;
import java.util.Set;
import java.util.regex.Matcher;
import java.util.regex.Pattern;

/** The rules of LANGUAGE.md that can be looked up in the source or in the classes; run from the project's root. */
public final class LanguageTest {
    private static final Checks checks = new Checks();

    private static final String[] BANNED = {
        "->", "::", "\\bimport\\b", "\\bpackage\\b", "\\btry\\b", "\\bcatch\\b", "\\bfinally\\b", "\\bsynchronized\\b",
        "\\bassert\\b", "\\binstanceof\\b", "\\w+Exact\\b", "\\bequals\\b", "\\bhashCode\\b", "\\btoString\\b",
        "\\bThread\\b", "\\bSystem\\.(?!arraycopy\\b)", "\\bstatic \\{", "\\bnull\\b", "\\bdouble\\b", "\\bfloat\\b",
    };

    private static String source() throws IOException {
        String text = Files.readString(Path.of("src/main/java/BuckTables.java"));
        return text.replaceAll("(?s)/\\*.*?\\*/", "").replaceAll("//.*", "").replaceAll("\"[^\"]*\"", "\"\"");
    }

    private static void words(String source) {
        for (String word : BANNED) {
            checks.due("uses " + word, false, Pattern.compile(word).matcher(source).find());
        }
        Matcher thrown = Pattern.compile("\\bthrow\\b(.*)").matcher(source);
        while (thrown.find()) {
            boolean named = thrown.group(1).matches(
                    " new (IllegalState|IllegalArgument|IndexOutOfBounds)Exception\\(\"\"\\);");
            checks.due("throw" + thrown.group(1), true, named);
        }
    }

    /** Rule 11: some sixty lines a method. */
    private static void lengths(String source) {
        String[] lines = source.split("\n");
        for (int i = 0; i < lines.length; i++) {
            Matcher begin = Pattern.compile("^( {4}| {8})\\w.*\\{$").matcher(lines[i]);
            if (begin.matches() && !lines[i].contains(" class ")) {
                int end = i;
                while (end < lines.length && !lines[end].equals(begin.group(1) + "}")) {
                    end++;
                }
                checks.due("at most 60 lines: " + lines[i].trim(), true, end - i < 60);
            }
        }
    }

    private static List<Class<?>> classes() {
        List<Class<?>> all = new ArrayList<>(List.of(BuckTables.class.getDeclaredClasses()));
        for (Class<?> inside : all) {
            int how = inside.getModifiers();
            checks.due(inside.getName() + " is static", true, Modifier.isStatic(how));
            checks.due(inside.getName() + " is seen", false, Modifier.isPublic(how) || Modifier.isProtected(how));
        }
        all.add(BuckTables.class);
        checks.due("at most twelve classes", true, all.size() <= 12);
        return all;
    }

    private static void shapes(Class<?> shape) {
        int fields = 0;
        for (Field f : shape.getDeclaredFields()) {
            if (Modifier.isStatic(f.getModifiers())) {
                checks.due(f + " is a constant", true, Modifier.isFinal(f.getModifiers()));
                checks.due(f + " is a number", true, f.getType() == int.class || f.getType() == long.class);
            } else {
                fields++;
            }
        }
        checks.due(shape.getName() + " has at most twenty fields", true, fields <= 20);
        for (Method m : shape.getDeclaredMethods()) {
            checks.due(m + " has at most seven parameters", true, m.getParameterCount() <= 7);
        }
        for (Constructor<?> c : shape.getDeclaredConstructors()) {
            checks.due(c + " has at most seven parameters", true, c.getParameterCount() <= 7);
        }
    }

    /** How many objects and arrays can be reached, and how many fields and elements they have. */
    private static long[] room(Object root) throws IllegalAccessException {
        Set<Object> seen = Collections.newSetFromMap(new IdentityHashMap<>());
        ArrayDeque<Object> open = new ArrayDeque<>(List.of(root));
        seen.add(root);
        long parts = 0;
        while (!open.isEmpty()) {
            for (Object part : partsOf(open.pop())) {
                parts++;
                if (part != root && (part.getClass().isArray() || part.getClass().getName().startsWith("BuckTables"))
                        && seen.add(part)) {
                    open.push(part);
                }
            }
        }
        return new long[] {seen.size(), parts};
    }

    private static List<Object> partsOf(Object whole) throws IllegalAccessException {
        List<Object> parts = new ArrayList<>();
        if (whole.getClass().isArray()) {
            for (int i = 0; i < Array.getLength(whole); i++) {
                parts.add(Array.get(whole, i));
            }
            return parts;
        }
        for (Field f : whole.getClass().getDeclaredFields()) {
            if (!Modifier.isStatic(f.getModifiers())) {
                f.setAccessible(true);
                parts.add(f.get(whole));
            }
        }
        return parts;
    }

    /** An object makes its rows once: after dear calls it has no more of them, and nothing in it is null. */
    private static void roomOfObject() throws IllegalAccessException {
        BuckTables x = Samples.fullOfStems();
        long[] before = room(new BuckTables(10));
        checks.due("objects and arrays of one object", true, before[0] < 200);
        checks.due("fields and elements of one object", true, before[1] < 15000);
        for (int i = 0; i < 200; i++) {
            x.priced(10);
            x.limit(0, i % 5);
        }
        long[] behind = room(x);
        checks.due("objects and arrays behind dear calls", before[0], behind[0]);
        checks.due("fields and elements behind dear calls", before[1], behind[1]);
    }

    public static void main(String[] args) throws IOException, IllegalAccessException {
        String source = source();
        words(source);
        lengths(source);
        for (Class<?> shape : classes()) {
            shapes(shape);
        }
        roomOfObject();
        checks.end();
    }
}
