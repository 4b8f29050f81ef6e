import java.lang.reflect.Constructor;
import java.lang.reflect.Field;
import java.lang.reflect.Method;
import java.lang.reflect.Modifier;
import java.util.Set;
import java.util.TreeSet;

/** The public face is that of the document, to the letter, and nothing else can be seen of the class. */
public final class FaceTest {
    private static final String INDEX = " IndexOutOfBoundsException";
    private static final String ARGUMENT = " IllegalArgumentException";
    private static final String STATE = " IllegalStateException";
    private static final String[] METHODS = {
        "int post()" + STATE,
        "void rates(int int int int)" + INDEX + ARGUMENT,
        "int due(int int int)" + INDEX + ARGUMENT,
        "int charge(int int)" + INDEX + ARGUMENT,
        "int coupon(int int)" + INDEX + ARGUMENT,
        "boolean strike(int boolean)" + INDEX,
        "int leg(int int int)" + INDEX + ARGUMENT + STATE,
        "boolean close(int boolean)" + INDEX,
        "int days(int int)" + INDEX,
        "int daysAnew(int int)" + INDEX,
        "int next(int int)" + INDEX,
        "int mail(int int int int int boolean)" + INDEX + ARGUMENT + STATE,
        "int redirect(int int)" + INDEX + ARGUMENT + STATE,
        "boolean refuse(int boolean)" + INDEX + STATE,
        "int go(int)" + ARGUMENT,
        "int lose(int)" + INDEX + STATE,
        "int claim(int)" + INDEX + STATE,
        "boolean sample(boolean)",
        "long settle(int)" + ARGUMENT,
        "int rate(int int int boolean)" + INDEX + ARGUMENT,
        "long ofThing(int int)" + INDEX + ARGUMENT,
        "int hand(int int)" + INDEX,
        "long account(int)" + INDEX,
        "long till(int)" + INDEX,
        "long counted(int int)" + INDEX,
        "int gain(int)" + ARGUMENT};
    private static final String[] CONSTANTS = {"NONE=-1", "LETTER=0", "CARD=1", "PRINT=2",
        "WAITS=0", "TRAVELS=1", "DELIVERED=2", "LOST=3"};

    private static final Checks checks = new Checks("FaceTest");

    public static void main(String[] args) throws IllegalAccessException {
        int classModifiers = Postunion.class.getModifiers();
        checks.is("public final", Modifier.isPublic(classModifiers) && Modifier.isFinal(classModifiers), true);
        checks.is("methods", methods(), new TreeSet<>(Set.of(METHODS)));
        checks.is("constants", constants(), new TreeSet<>(Set.of(CONSTANTS)));
        Constructor<?>[] constructors = Postunion.class.getDeclaredConstructors();
        checks.is("constructors", constructors.length, 1);
        checks.is("constructor", constructors[0].toGenericString(), "public Postunion()");
        checkNoOtherMember();
        checks.end();
    }

    private static Set<String> methods() {
        Set<String> found = new TreeSet<>();
        for (Method method : Postunion.class.getDeclaredMethods()) {
            if (!Modifier.isPrivate(method.getModifiers())) {
                found.add(method.getReturnType().getName() + " " + method.getName() + "("
                    + names(method.getParameterTypes()) + ")" + thrown(method));
            }
        }
        return found;
    }

    private static String thrown(Method method) {
        String names = names(method.getExceptionTypes());
        return names.isEmpty() ? "" : " " + names;
    }

    private static String names(Class<?>[] types) {
        StringBuilder names = new StringBuilder();
        for (Class<?> type : types) {
            names.append(names.length() == 0 ? "" : " ").append(type.getSimpleName());
        }
        return names.toString();
    }

    private static Set<String> constants() throws IllegalAccessException {
        Set<String> found = new TreeSet<>();
        for (Field field : Postunion.class.getDeclaredFields()) {
            int modifiers = field.getModifiers();
            if (!Modifier.isPrivate(modifiers)) {
                boolean isConstant = Modifier.isPublic(modifiers) && Modifier.isStatic(modifiers) && Modifier.isFinal(modifiers);
                found.add(field.getName() + "=" + (isConstant ? field.getInt(null) : "no constant"));
            }
        }
        return found;
    }

    private static void checkNoOtherMember() {
        Set<String> faceNames = new TreeSet<>();
        for (String method : METHODS) {
            faceNames.add(method.substring(method.indexOf(' ') + 1, method.indexOf('(')));
        }
        for (Method method : Postunion.class.getDeclaredMethods()) {
            checkName(method, faceNames);
        }
        for (Class<?> inside : Postunion.class.getDeclaredClasses()) {
            checks.is(inside + " is static", Modifier.isStatic(inside.getModifiers()), true);
            checks.is(inside + " is public", Modifier.isPublic(inside.getModifiers()), false);
            for (Method method : inside.getDeclaredMethods()) {
                checks.is(method + " bears a name of the face", faceNames.contains(method.getName()), false);
            }
        }
    }

    private static void checkName(Method method, Set<String> faceNames) {
        boolean isPublic = Modifier.isPublic(method.getModifiers());
        checks.is(method + " bears a name of the face", faceNames.contains(method.getName()), isPublic);
    }
}
