import java.lang.reflect.Constructor;
import java.lang.reflect.Field;
import java.lang.reflect.Member;
import java.lang.reflect.Method;
import java.lang.reflect.Modifier;
import java.util.Arrays;
import java.util.Set;
import java.util.TreeSet;

/** The public face of the document, and nothing beside it. */
public final class FaceTest {
    private static final Set<String> METHODS = new TreeSet<>(Set.of("line/3", "machine/4", "dark/0", "of/2", "at/2",
            "bus/2", "can/0", "tick/1", "fail/1", "trip/1"));
    private static final Set<String> FIELDS = new TreeSet<>(Set.of("UNKNOWN=-1", "OUTSIDE=-2", "STATE=-3", "FULL=-4",
            "NO=-5", "NONE=-6"));

    public static void main(String[] args) throws IllegalAccessException {
        METHODS.addAll(Set.of("way/3", "go/2", "needed/3", "ever/1", "image/1", "restore/1", "count/1"));
        Class<?> face = GridStarts.class;
        Check.isTrue("public and final", face.getModifiers() == (Modifier.PUBLIC | Modifier.FINAL));
        Check.isTrue("extends nothing", face.getSuperclass() == Object.class && face.getInterfaces().length == 0);
        constructors(face);
        methods(face);
        fields(face);
        for (Class<?> inside : face.getDeclaredClasses()) {
            Check.isTrue(inside + " is static", Modifier.isStatic(inside.getModifiers()));
            Check.isTrue(inside + " is not public", !isSeenOutside(inside.getModifiers()));
            methodsInside(inside);
        }
        Check.end();
    }

    private static boolean isSeenOutside(int modifiers) {
        return Modifier.isPublic(modifiers) || Modifier.isProtected(modifiers);
    }

    private static boolean isHidden(Member member) {
        return Modifier.isPrivate(member.getModifiers()) || member.isSynthetic();
    }

    private static void constructors(Class<?> face) {
        Constructor<?>[] all = face.getDeclaredConstructors();
        Check.due("constructors", all.length, 1);
        Check.isTrue("public, without arguments",
                Modifier.isPublic(all[0].getModifiers()) && all[0].getParameterCount() == 0);
    }

    private static void methods(Class<?> face) {
        Set<String> seen = new TreeSet<>();
        for (Method method : face.getDeclaredMethods()) {
            if (isHidden(method)) {
                Check.isTrue(method + " bears no public name", !bearsPublicName(method));
                continue;
            }
            seen.add(method.getName() + "/" + method.getParameterCount());
            Check.isTrue(method + " is public, of an object",
                    Modifier.isPublic(method.getModifiers()) && !Modifier.isStatic(method.getModifiers()));
            Check.isTrue(method + " takes and answers int", method.getReturnType() == int.class
                    && Arrays.stream(method.getParameterTypes()).allMatch(t -> t == int.class));
            Check.isTrue(method + " throws nothing", method.getExceptionTypes().length == 0);
        }
        Check.isTrue("methods " + seen, seen.equals(METHODS));
    }

    private static boolean bearsPublicName(Method method) {
        return METHODS.stream().anyMatch(m -> m.startsWith(method.getName() + "/"));
    }

    private static void methodsInside(Class<?> inside) {
        for (Method method : inside.getDeclaredMethods()) {
            Check.isTrue(method + " bears no public name", !bearsPublicName(method));
            Check.isTrue(method + " takes at most seven", method.getParameterCount() <= 7);
        }
    }

    private static void fields(Class<?> face) throws IllegalAccessException {
        Set<String> seen = new TreeSet<>();
        for (Field field : face.getDeclaredFields()) {
            if (Modifier.isStatic(field.getModifiers())) {
                Check.isTrue(field + " is final", Modifier.isFinal(field.getModifiers()));
            }
            if (!isHidden(field)) {
                seen.add(field.getName() + "=" + field.get(null));
            }
        }
        Check.isTrue("constants " + seen, seen.equals(FIELDS));
    }
}
