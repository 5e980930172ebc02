import java.lang.reflect.Constructor;
import java.lang.reflect.Field;
import java.lang.reflect.Method;
import java.lang.reflect.Modifier;
import java.util.Arrays;
import java.util.TreeSet;
import java.util.stream.Collectors;

/** The public face is the document's, and nothing else can be seen from outside. */
public final class FaceTest {
    private static final String S = "IllegalStateException";
    private static final String X = "IndexOutOfBoundsException";
    private static final String A = "IllegalArgumentException";

    private static final String[] FACE = {
        "boolean stem(int,int,int) " + S + "," + A,
        "boolean fault(int,int,int) " + S + "," + A,
        "int stems() " + S,
        "int product(int,int,int,int,long) " + S + "," + A,
        "boolean bars(int,int) " + X + "," + A,
        "boolean force(int) " + A,
        "boolean margin(int) " + A,
        "boolean saw(int) " + A,
        "boolean limit(int,long) " + X + "," + A,
        "boolean wish(int,int,long) " + X + "," + A,
        "int run() ",
        "int priced(int) " + A,
        "long worth() " + S,
        "int log(int,int) " + S + "," + X + "," + A,
        "int fuel(int,int) " + S + "," + X + "," + A,
        "long bound() " + S,
        "long price(int,int) " + S + "," + X,
        "int override(int) " + S + "," + A,
        "boolean greatest() " + S,
    };

    private static String names(Class<?>[] classes) {
        return Arrays.stream(classes).map(Class::getSimpleName).collect(Collectors.joining(","));
    }

    private static String line(Method m) {
        return m.getReturnType().getSimpleName() + " " + m.getName() + "(" + names(m.getParameterTypes()) + ") "
                + names(m.getExceptionTypes());
    }

    public static void main(String[] args) {
        Checks checks = new Checks();
        TreeSet<String> seen = new TreeSet<>();
        TreeSet<String> publicNames = new TreeSet<>();
        for (Method m : BuckTables.class.getDeclaredMethods()) {
            if (!Modifier.isPrivate(m.getModifiers())) {
                checks.due(m.getName() + " is public", true, Modifier.isPublic(m.getModifiers()));
                checks.due(m.getName() + " is of the object", false, Modifier.isStatic(m.getModifiers()));
                seen.add(line(m));
                publicNames.add(m.getName());
            }
        }
        checks.due("methods", new TreeSet<>(Arrays.asList(FACE)).toString(), seen.toString());
        for (Method m : BuckTables.class.getDeclaredMethods()) {
            if (Modifier.isPrivate(m.getModifiers())) {
                checks.due(m.getName() + " is no name of the face", false, publicNames.contains(m.getName()));
            }
        }
        for (Field f : BuckTables.class.getDeclaredFields()) {
            checks.due(f.getName() + " is seen", f.getName().equals("NONE"), !Modifier.isPrivate(f.getModifiers()));
        }
        Constructor<?>[] made = BuckTables.class.getDeclaredConstructors();
        checks.due("constructors", 1, made.length);
        checks.due("constructor", "int", names(made[0].getParameterTypes()));
        checks.due("class is final", true, Modifier.isFinal(BuckTables.class.getModifiers()));
        checks.due("NONE", -1, BuckTables.NONE);
        checks.end();
    }
}
