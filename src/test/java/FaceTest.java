import java.lang.reflect.Constructor;
import java.lang.reflect.Field;
import java.lang.reflect.Method;
import java.lang.reflect.Modifier;
import java.util.Arrays;
import java.util.Set;
import java.util.TreeSet;

/** The public face: every constant, constructor and method of the document, and no other. */
public final class FaceTest {
    private static final String[] METHODS = {
        "public boolean mend(int) throws IndexOutOfBoundsException,IllegalStateException",
        "public double capacityOf(int) throws IndexOutOfBoundsException",
        "public double chargeOf(int) throws IndexOutOfBoundsException",
        "public int addLamp(int) throws IllegalArgumentException,IllegalStateException",
        "public int addMiner(int) throws IllegalArgumentException,IllegalStateException",
        "public int alarm(int)",
        "public int back(int) throws IndexOutOfBoundsException,IllegalStateException",
        "public int below()",
        "public int board(int)",
        "public int hours(int) throws IllegalArgumentException",
        "public int hoursBelow(int) throws IndexOutOfBoundsException",
        "public int issue(int) throws IndexOutOfBoundsException,IllegalStateException",
        "public int lampOf(int) throws IndexOutOfBoundsException",
        "public int lightLeft(int) throws IndexOutOfBoundsException",
        "public int placeOf(int) throws IndexOutOfBoundsException",
        "public int rackCharge()",
        "public int ready(int) throws IllegalArgumentException",
        "public int spares()",
        "public int test(int) throws IndexOutOfBoundsException,IllegalStateException",
        "public int turnsOf(int) throws IndexOutOfBoundsException",
    };

    private static final String[] CONSTANTS = {
        "public static final int ASIDE = 2",
        "public static final int DARK = 1",
        "public static final int LATE = 0",
        "public static final int LEAKING = 1",
        "public static final int OUT = 1",
        "public static final int RACK = 0",
        "public static final int SCRAPPED = 3",
        "public static final int SOUND = 0",
        "public static final int WEAK = 2",
    };

    public static void main(String[] args) throws IllegalAccessException {
        Checks checks = new Checks();
        checks.same("the class", Modifier.toString(LampRoom.class.getModifiers()), "public final");
        checks.same("the package", LampRoom.class.getPackageName(), "");
        checks.same("the class above", LampRoom.class.getSuperclass().getName(), "java.lang.Object");
        checks.same("the interfaces", LampRoom.class.getInterfaces().length, 0);
        checks.same("the methods", methods(), lines(METHODS));
        checks.same("the constants", constants(), lines(CONSTANTS));
        checks.same("the constructors", constructors(), lines("public LampRoom()"));
        innerNames(checks);
        checks.finish();
    }

    private static String lines(String... rows) {
        return String.join("\n", new TreeSet<>(Arrays.asList(rows)));
    }

    private static boolean isHidden(int modifiers) {
        return Modifier.isPrivate(modifiers);
    }

    private static String plain(String row) {
        return row.replace("java.lang.", "").replace("LampRoom.", "");
    }

    private static String methods() {
        Set<String> rows = new TreeSet<>();
        for (Method method : LampRoom.class.getDeclaredMethods()) {
            if (!isHidden(method.getModifiers()) && !method.isSynthetic()) {
                rows.add(plain(method.toString()));
            }
        }
        return String.join("\n", rows);
    }

    private static String constants() throws IllegalAccessException {
        Set<String> rows = new TreeSet<>();
        for (Field field : LampRoom.class.getDeclaredFields()) {
            if (!isHidden(field.getModifiers())) {
                rows.add(plain(field.toString()) + " = " + field.get(null));
            }
        }
        return String.join("\n", rows);
    }

    private static String constructors() {
        Set<String> rows = new TreeSet<>();
        for (Constructor<?> constructor : LampRoom.class.getDeclaredConstructors()) {
            if (!isHidden(constructor.getModifiers())) {
                rows.add(constructor.toString());
            }
        }
        return String.join("\n", rows);
    }

    // LANGUAGE.md, rule 1: no private method bears the name of a public one.
    private static void innerNames(Checks checks) {
        Set<String> face = new TreeSet<>();
        for (Method method : LampRoom.class.getMethods()) {
            face.add(method.getName());
        }
        for (Method method : LampRoom.class.getDeclaredMethods()) {
            boolean clash = isHidden(method.getModifiers()) && face.contains(method.getName());
            checks.same("a private method is named " + method.getName(), clash, false);
        }
        for (Class<?> inner : LampRoom.class.getDeclaredClasses()) {
            checks.same(inner + " is public or protected",
                    Modifier.isPublic(inner.getModifiers()) || Modifier.isProtected(inner.getModifiers()), false);
            for (Method method : inner.getDeclaredMethods()) {
                boolean clash = isHidden(method.getModifiers()) && face.contains(method.getName());
                checks.same("a private method inside is named " + method.getName(), clash, false);
            }
        }
    }
}
