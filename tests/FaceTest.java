import java.lang.reflect.Constructor;
import java.lang.reflect.Field;
import java.lang.reflect.Method;
import java.lang.reflect.Modifier;
import java.util.HashSet;
import java.util.Set;
import java.util.TreeSet;

/** The public face: the constants, the constructor and the methods of the document, and no others. */
public final class FaceTest {
    private static final String[] METHODS = {
        "int set(int, int)", "int board(int, int, int)", "int load(int, int)", "int turn(int)",
        "int fuse(int, int, int)", "int pass(int)", "int of(int, int)", "int ofLoad(int, int)",
        "int fed(int)", "int blown(int)", "int count(int)", "int next(int)", "int test(int, int, int)",
        "int unfair(int)", "int ifOpen(int)", "int put(long)", "int wipe()", "int fault()",
        "int carryOut()", "int undo()", "int save(int)", "int restore(int)"};
    private static final String[] CONSTANTS = {
        "NO_SUCH = -1", "BAD_VALUE = -2", "BAD_TEXT = -3", "TOO_MANY = -4", "NOT_POSSIBLE = -5", "NONE = -6",
        "ARC = 0", "COOL = 1", "AGE = 2"};

    public static void main(String[] args) throws Exception {
        methodsAreThose();
        constantsAreThose();
        Due.end();
    }

    private static void methodsAreThose() {
        Due.isTrue("the class is final", Modifier.isFinal(FuseBoards.class.getModifiers()));
        Set<String> found = new TreeSet<>();
        Set<String> names = new HashSet<>();
        for (Method m : FuseBoards.class.getDeclaredMethods()) {
            if (Modifier.isPrivate(m.getModifiers())) continue;
            Due.isTrue(m + " is public", Modifier.isPublic(m.getModifiers()));
            String parameters = "";
            for (Class<?> p : m.getParameterTypes()) parameters += (parameters.isEmpty() ? "" : ", ") + p.getName();
            found.add(m.getReturnType().getName() + " " + m.getName() + "(" + parameters + ")");
            names.add(m.getName());
        }
        Due.isTrue("public methods: " + found, found.equals(new TreeSet<>(Set.of(METHODS))));
        Constructor<?>[] made = FuseBoards.class.getDeclaredConstructors();
        Due.is("constructors", made.length, 1);
        Due.isTrue("the constructor is public", Modifier.isPublic(made[0].getModifiers()));
        noPrivateMethodBearsOneOf(names, FuseBoards.class);
        for (Class<?> inside : FuseBoards.class.getDeclaredClasses()) {
            Due.isTrue(inside + " is static", Modifier.isStatic(inside.getModifiers()));
            Due.isTrue(inside + " is hidden", !Modifier.isPublic(inside.getModifiers()));
            noPrivateMethodBearsOneOf(names, inside);
        }
    }

    private static void noPrivateMethodBearsOneOf(Set<String> names, Class<?> owner) {
        for (Method m : owner.getDeclaredMethods()) {
            if (!Modifier.isPrivate(m.getModifiers())) continue;
            Due.isTrue(m + " bears no public name", !names.contains(m.getName()));
        }
    }

    private static void constantsAreThose() throws Exception {
        Set<String> found = new TreeSet<>();
        for (Field f : FuseBoards.class.getDeclaredFields()) {
            if (Modifier.isPrivate(f.getModifiers())) continue;
            found.add(f.getName() + " = " + f.get(null));
            Due.isTrue(f + " is a public constant",
                Modifier.isPublic(f.getModifiers()) && Modifier.isStatic(f.getModifiers()) && Modifier.isFinal(f.getModifiers()));
        }
        Due.isTrue("public constants: " + found, found.equals(new TreeSet<>(Set.of(CONSTANTS))));
    }
}
