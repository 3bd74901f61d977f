import java.lang.reflect.Constructor;
import java.lang.reflect.Field;
import java.lang.reflect.Method;
import java.lang.reflect.Modifier;
import java.util.Arrays;
import java.util.Set;
import java.util.TreeMap;
import java.util.TreeSet;

/** The public face is the document's, whole, and nothing besides (LANGUAGE.md, rules 1, 5 and 11). */
public final class FaceTest {
    private static final String[] METHODS = {"lawn(int, int)", "soil(int, int)", "sprinkler(int, int, int, int)",
        "of(int, int)", "cell(int, int)", "turn(int, int)", "rule(int, int)", "type(int)", "garden()", "count(int)",
        "minutes(int)", "sun(int)", "move(int, int)", "drift(int)", "undo()", "seed(int)", "ahead(int, int)",
        "wrongs(int, int)", "enough()", "stand(int, int, int)", "set(int, int)", "turns(int, int)", "image()",
        "restore()", "tins(int, int, int, int, int, int)", "film(int, int, int, int, int)", "sheet(int, int, int)",
        "drop(int)", "item(int, int, int, long)", "copy(int, int, int, int, int)"};

    public static void main(String[] args) throws IllegalAccessException {
        constants();
        methods();
        inside();
        Due.end();
    }

    private static void constants() throws IllegalAccessException {
        TreeMap<String, Integer> found = new TreeMap<>();
        for (Field f : LawnRings.class.getDeclaredFields()) {
            if (!Modifier.isPrivate(f.getModifiers())) {
                Due.that(f + " is public static final", f.getModifiers()
                    == (Modifier.PUBLIC | Modifier.STATIC | Modifier.FINAL));
                found.put(f.getName(), f.getInt(null));
            }
        }
        Due.that("constants " + found, found.toString().equals(
            "{BAD=-1, CAST=-12, FULL=-3, INDEX=-13, NONE=-4, NOT=-2, NULL=-11, SIZE=-14}"));
    }

    private static void methods() {
        Set<String> found = new TreeSet<>();
        Set<String> open = new TreeSet<>();
        for (Method m : LawnRings.class.getDeclaredMethods()) {
            if (!Modifier.isPrivate(m.getModifiers())) {
                found.add(called(m));
                open.add(m.getName());
                Due.that(m + " is public and answers an int",
                    m.getModifiers() == Modifier.PUBLIC && m.getReturnType() == int.class);
            }
        }
        Due.that("methods " + found, found.equals(new TreeSet<>(Arrays.asList(METHODS))));
        for (Method m : LawnRings.class.getDeclaredMethods()) {
            Due.that(m + " bears no public name", found.contains(called(m)) || !open.contains(m.getName()));
        }
        Constructor<?>[] made = LawnRings.class.getDeclaredConstructors();
        Due.due("constructors", made.length, 1);
        Due.due("its parameters", made[0].getParameterCount(), 0);
        Due.that("it is public", Modifier.isPublic(made[0].getModifiers()));
        Due.that("the class is public and final", LawnRings.class.getModifiers() == (Modifier.PUBLIC | Modifier.FINAL));
    }

    private static String called(Method m) {
        String types = Arrays.toString(m.getParameterTypes());
        return m.getName() + "(" + types.substring(1, types.length() - 1) + ")";
    }

    private static void inside() {
        Class<?>[] classes = LawnRings.class.getDeclaredClasses();
        Due.that("no more than twelve classes", classes.length < 12);
        for (Class<?> c : classes) {
            Due.that(c + " is static, not public", Modifier.isStatic(c.getModifiers())
                && !Modifier.isPublic(c.getModifiers()) && !Modifier.isProtected(c.getModifiers()));
            int fields = 0;
            for (Field f : c.getDeclaredFields()) {
                boolean fixed = Modifier.isStatic(f.getModifiers());
                fields += fixed ? 0 : 1;
                Due.that(f + " is final, if static", !fixed || Modifier.isFinal(f.getModifiers()));
            }
            Due.that(c + " has no more than twenty fields", fields <= 20);
            for (Method m : c.getDeclaredMethods()) {
                Due.that(m + " has no more than seven parameters", m.getParameterCount() <= 7);
                Due.that(m + " bears no public name, if private", !Modifier.isPrivate(m.getModifiers())
                    || Arrays.stream(METHODS).noneMatch(open -> open.startsWith(m.getName() + "(")));
            }
        }
    }
}
