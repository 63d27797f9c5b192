import java.lang.reflect.Constructor;
import java.lang.reflect.Field;
import java.lang.reflect.Method;
import java.lang.reflect.Modifier;
import java.util.Arrays;
import java.util.Set;
import java.util.TreeSet;

/** The face that the document gives and no more, and the constants. */
public final class FaceTest {
    private static final Due DUE = new Due();
    private static final Set<String> METHODS = Set.of("nodes 1", "link 3", "clock 2", "block 1", "pause 1", "send 1",
        "kept 3", "lost 2", "took 4", "first 2", "sound 2", "apart 3", "tight 2", "truth 5", "image 1", "restore 1",
        "count 1");
    private static final Set<String> CONSTANTS = Set.of("UNKNOWN", "OUTSIDE", "STATE", "FULL", "NO", "NONE", "GONE");

    public static void main(String[] args) {
        constantsAreAsTold();
        membersAreAsTold();
        noHiddenNameIsAPublicOne();
        DUE.end();
    }

    private static void dueTrue(String what, boolean holds) {
        DUE.due(what, holds ? 1 : 0, 1);
    }

    private static void constantsAreAsTold() {
        DUE.due("UNKNOWN", PathSounder.UNKNOWN, -1);
        DUE.due("OUTSIDE", PathSounder.OUTSIDE, -2);
        DUE.due("STATE", PathSounder.STATE, -3);
        DUE.due("FULL", PathSounder.FULL, -4);
        DUE.due("NO", PathSounder.NO, -5);
        DUE.due("NONE", PathSounder.NONE, -6);
        DUE.due("GONE", PathSounder.GONE, -1000000000);
    }

    private static void membersAreAsTold() {
        Set<String> methods = new TreeSet<>();
        for (Method m : PathSounder.class.getDeclaredMethods()) {
            if (!Modifier.isPrivate(m.getModifiers())) {
                methods.add(m.getName() + " " + m.getParameterCount());
                dueTrue(m + " is public and answers an int of ints", Modifier.isPublic(m.getModifiers())
                    && m.getReturnType() == int.class
                    && Arrays.stream(m.getParameterTypes()).allMatch(t -> t == int.class));
            }
        }
        dueTrue("methods " + methods, methods.equals(METHODS));
        Set<String> fields = new TreeSet<>();
        for (Field f : PathSounder.class.getDeclaredFields()) {
            if (!Modifier.isPrivate(f.getModifiers())) {
                fields.add(f.getName());
                dueTrue(f + " is a constant", f.toString().startsWith("public static final int "));
            }
            dueTrue(f + " is final if static", !Modifier.isStatic(f.getModifiers())
                || Modifier.isFinal(f.getModifiers()));
        }
        dueTrue("constants " + fields, fields.equals(CONSTANTS));
        Constructor<?>[] made = PathSounder.class.getDeclaredConstructors();
        dueTrue("one public constructor of nothing", made.length == 1 && Modifier.isPublic(made[0].getModifiers())
            && made[0].getParameterCount() == 0);
        dueTrue("public and final", PathSounder.class.toString().equals("class PathSounder")
            && Modifier.isPublic(PathSounder.class.getModifiers())
            && Modifier.isFinal(PathSounder.class.getModifiers()));
    }

    private static void noHiddenNameIsAPublicOne() {
        Set<String> names = new TreeSet<>();
        METHODS.forEach(m -> names.add(m.substring(0, m.indexOf(' '))));
        for (Method m : PathSounder.class.getDeclaredMethods()) {
            dueTrue(m + " is hidden under a name of its own", Modifier.isPublic(m.getModifiers())
                || !names.contains(m.getName()));
        }
        for (Class<?> inside : PathSounder.class.getDeclaredClasses()) {
            dueTrue(inside + " is static and not public", Modifier.isStatic(inside.getModifiers())
                && !Modifier.isPublic(inside.getModifiers()) && !Modifier.isProtected(inside.getModifiers()));
            for (Method m : inside.getDeclaredMethods()) {
                dueTrue(m + " has a name of its own", !names.contains(m.getName()));
            }
        }
    }
}
