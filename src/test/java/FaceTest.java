import java.lang.reflect.Constructor;
import java.lang.reflect.Field;
import java.lang.reflect.Method;
import java.lang.reflect.Modifier;
import java.util.Arrays;
import java.util.TreeSet;

/** The public face and the constants: what the document shows, and nothing else. */
public final class FaceTest {
    private static final String[] FACE = {
        "int addMember(int, int, int) throws IllegalArgumentException, IllegalStateException",
        "int addClient(int, int) throws IndexOutOfBoundsException, IllegalArgumentException, IllegalStateException",
        "int setGain(int, int) throws IndexOutOfBoundsException, IllegalArgumentException, IllegalStateException",
        "int setTested(int, int) throws IndexOutOfBoundsException, IllegalArgumentException, IllegalStateException",
        "int setCapital(int) throws IllegalArgumentException",
        "void giveNotice(int) throws IndexOutOfBoundsException, IllegalStateException",
        "int size() throws IllegalStateException",
        "int fail(int, int) throws IndexOutOfBoundsException, IllegalArgumentException, IllegalStateException",
        "void bid(int, int, int) throws IndexOutOfBoundsException, IllegalArgumentException, IllegalStateException",
        "int close() throws IllegalStateException",
        "int members()",
        "int state(int) throws IndexOutOfBoundsException",
        "int margin(int) throws IndexOutOfBoundsException",
        "int share(int) throws IndexOutOfBoundsException",
        "int gain(int) throws IndexOutOfBoundsException",
        "boolean isJunior(int) throws IndexOutOfBoundsException",
        "int assessed(int) throws IndexOutOfBoundsException",
        "int clientLots(int) throws IndexOutOfBoundsException",
        "int won(int) throws IndexOutOfBoundsException",
        "int capital()",
        "int loss()",
        "int uncovered()",
        "int failing()",
    };

    public static void main(String[] args) {
        constants();
        classItself();
        methods();
        fields();
        Check.end();
    }

    private static void constants() {
        Check.same("NONE", DefaultFund.NONE, -1);
        Check.same("GOES_ON", DefaultFund.GOES_ON, 0);
        Check.same("NOTICE", DefaultFund.NOTICE, 1);
        Check.same("FAILED", DefaultFund.FAILED, 2);
        Check.same("LEFT", DefaultFund.LEFT, 3);
    }

    private static void classItself() {
        int modifiers = DefaultFund.class.getModifiers();
        Check.same("public final", Modifier.isPublic(modifiers) && Modifier.isFinal(modifiers), true);
        Constructor<?>[] made = DefaultFund.class.getDeclaredConstructors();
        Check.same("constructors", made.length, 1);
        Check.same("public constructor", Modifier.isPublic(made[0].getModifiers()), true);
        Check.same("its arguments", made[0].getParameterCount(), 0);
    }

    private static void methods() {
        TreeSet<String> open = new TreeSet<>();
        TreeSet<String> hidden = new TreeSet<>();
        for (Method method : DefaultFund.class.getDeclaredMethods()) {
            if (Modifier.isPrivate(method.getModifiers()) || method.isSynthetic()) {
                hidden.add(method.getName());
            } else {
                open.add(signature(method));
                Check.same(method.getName() + " is public", Modifier.isPublic(method.getModifiers()), true);
                Check.same(method.getName() + " is static", Modifier.isStatic(method.getModifiers()), false);
            }
        }
        Check.same("methods", open.toString(), new TreeSet<>(Arrays.asList(FACE)).toString());
        for (String line : FACE) {
            String name = line.substring(line.indexOf(' ') + 1, line.indexOf('('));
            Check.same("a private method bears the name " + name, hidden.contains(name), false);
        }
    }

    private static String signature(Method method) {
        StringBuilder text = new StringBuilder();
        text.append(method.getReturnType().getSimpleName()).append(' ').append(method.getName());
        text.append(names(method.getParameterTypes(), "(")).append(')');
        if (method.getExceptionTypes().length > 0) {
            text.append(names(method.getExceptionTypes(), " throws "));
        }
        return text.toString();
    }

    private static String names(Class<?>[] types, String lead) {
        StringBuilder text = new StringBuilder(lead);
        for (int i = 0; i < types.length; i++) {
            text.append(i > 0 ? ", " : "").append(types[i].getSimpleName());
        }
        return text.toString();
    }

    private static void fields() {
        TreeSet<String> open = new TreeSet<>();
        for (Field field : DefaultFund.class.getDeclaredFields()) {
            int modifiers = field.getModifiers();
            if (!Modifier.isPrivate(modifiers)) {
                open.add(field.getName());
                Check.same(field.getName() + " is a public constant", Modifier.isPublic(modifiers)
                        && Modifier.isStatic(modifiers) && Modifier.isFinal(modifiers), true);
                Check.same(field.getName() + " type", field.getType().getName(), "int");
            } else if (Modifier.isStatic(modifiers)) {
                Check.same(field.getName() + " is final", Modifier.isFinal(modifiers), true);
            }
        }
        Check.same("constants", open.toString(), "[FAILED, GOES_ON, LEFT, NONE, NOTICE]");
    }
}
