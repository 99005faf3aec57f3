import java.lang.reflect.Constructor;
import java.lang.reflect.Field;
import java.lang.reflect.Method;
import java.lang.reflect.Modifier;
import java.util.ArrayList;
import java.util.Arrays;
import java.util.List;
import java.util.Set;
import java.util.TreeSet;

/** The public face is the document's, and nothing beside it can be seen from outside. */
public final class FaceTest {
    private static final String[] FACE = {
        "int setCell(int,int,int,int) IndexOutOfBoundsException IllegalArgumentException",
        "int setGround(int,int) IndexOutOfBoundsException IllegalArgumentException",
        "int setConductance(int,int) IndexOutOfBoundsException IllegalArgumentException",
        "int setLeakage(int,int) IndexOutOfBoundsException IllegalArgumentException",
        "int setRain(int,int) IndexOutOfBoundsException IllegalArgumentException",
        "int setBed(int,int,int) IndexOutOfBoundsException IllegalArgumentException",
        "int setRiver(int) IllegalArgumentException",
        "int setSea(int) IllegalArgumentException",
        "int addWell(int,int,int) IndexOutOfBoundsException IllegalArgumentException IllegalStateException",
        "int setWish(int,int) IndexOutOfBoundsException IllegalArgumentException",
        "int transfer(int,int,int) IndexOutOfBoundsException IllegalArgumentException UnsupportedOperationException",
        "int pass(int) IllegalArgumentException ArithmeticException",
        "int level(int) IndexOutOfBoundsException",
        "int water(int) IndexOutOfBoundsException",
        "int salt(int) IndexOutOfBoundsException",
        "int amount(int) IndexOutOfBoundsException",
        "int yearly(int) IndexOutOfBoundsException",
        "long pumped(int) IndexOutOfBoundsException",
        "boolean isShut(int) IndexOutOfBoundsException",
        "int byAge(int) NoSuchElementException",
        "long pumpedWithout(int,int) IndexOutOfBoundsException UnsupportedOperationException",
        "int events()",
        "char eventAt(int) IndexOutOfBoundsException",
        "long account(char) IllegalArgumentException",
        "long checksum()",
        "float dryShare()",
        "double meanLevel()",
        "boolean isSound()",
    };

    /** The types that LANGUAGE.md allows for what is static. */
    private static final Set<Class<?>> STATICS = Set.of(int.class, long.class, boolean.class, char.class, String.class,
            int[].class, long[].class, char[].class, byte[].class);
    private static final int MOST_FIELDS = 20;

    public static void main(String[] args) {
        Due due = new Due("FaceTest");
        Class<?> face = Aquiferward.class;
        due.is("the class's modifiers", Modifier.toString(face.getModifiers()), "public final");
        Set<String> seen = new TreeSet<>();
        Set<String> names = new TreeSet<>();
        for (Method method : face.getDeclaredMethods()) {
            if (Modifier.isPublic(method.getModifiers())) {
                seen.add(told(method));
                names.add(method.getName());
                due.is(method + " is static", Modifier.isStatic(method.getModifiers()), false);
            }
        }
        due.is("the public methods", seen, new TreeSet<>(Arrays.asList(FACE)));
        for (Method method : face.getDeclaredMethods()) {
            if (!Modifier.isPublic(method.getModifiers()) && !method.isSynthetic()) {
                due.is(method + " is private", Modifier.isPrivate(method.getModifiers()), true);
                due.is(method + " bears a public name", names.contains(method.getName()), false);
            }
        }
        for (Field field : face.getDeclaredFields()) {
            due.is(field + " is private", Modifier.isPrivate(field.getModifiers()), true);
        }
        checkFields(due, face);
        Constructor<?>[] constructors = face.getDeclaredConstructors();
        due.is("the constructors", constructors.length, 1);
        due.is("the constructor", constructors[0].toString(), "public Aquiferward()");
        for (Class<?> inside : face.getDeclaredClasses()) {
            due.is(inside + " is public or protected",
                    Modifier.isPublic(inside.getModifiers()) || Modifier.isProtected(inside.getModifiers()), false);
            due.is(inside + " is static", Modifier.isStatic(inside.getModifiers()), true);
            checkFields(due, inside);
        }
        due.end();
    }

    private static void checkStatic(Due due, Field field) {
        if (Modifier.isStatic(field.getModifiers())) {
            due.is(field + " is final", Modifier.isFinal(field.getModifiers()), true);
            due.is(field + " is a constant", STATICS.contains(field.getType()), true);
        }
    }

    private static void checkFields(Due due, Class<?> inside) {
        int count = 0;
        for (Field field : inside.getDeclaredFields()) {
            checkStatic(due, field);
            count += Modifier.isStatic(field.getModifiers()) ? 0 : 1;
        }
        due.is(inside + " has " + count + " fields, at most " + MOST_FIELDS, count <= MOST_FIELDS, true);
    }

    private static String told(Method method) {
        List<String> arguments = new ArrayList<>();
        for (Class<?> argument : method.getParameterTypes()) {
            arguments.add(argument.getSimpleName());
        }
        StringBuilder text = new StringBuilder();
        text.append(method.getReturnType().getSimpleName()).append(' ').append(method.getName());
        text.append('(').append(String.join(",", arguments)).append(')');
        for (Class<?> thrown : method.getExceptionTypes()) {
            text.append(' ').append(thrown.getSimpleName());
        }
        return text.toString();
    }
}
