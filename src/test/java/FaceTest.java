import java.lang.reflect.Constructor;
import java.lang.reflect.Field;
import java.lang.reflect.Method;
import java.lang.reflect.Modifier;
import java.util.Arrays;
import java.util.TreeSet;

/** The public face and its constants. */
public final class FaceTest {
    private static final String[] METHODS = {
        "int branch(int, int, int)", "int choice(int, int)",
        "int good(int) throws IllegalStateException, IndexOutOfBoundsException",
        "long lower(int) throws IllegalStateException, IndexOutOfBoundsException",
        "int mixed()", "int owner(int)", "int place()", "int read() throws IllegalArgumentException",
        "int solve() throws IllegalStateException", "int states()", "boolean target(int)",
        "int type(long, int)",
        "long upper(int) throws IllegalStateException, IndexOutOfBoundsException",
        "int variable(int, int)", "int wipe()",
    };

    public static void main(String[] args) {
        Check check = new Check();
        members(check);
        constants(check);
        check.end();
    }

    private static void members(Check check) {
        TreeSet<String> methods = new TreeSet<>();
        for (Method method : ChanceGame.class.getDeclaredMethods()) {
            if (!Modifier.isPrivate(method.getModifiers())) {
                methods.add(told(method));
            }
        }
        check.due("the methods " + methods, methods.equals(new TreeSet<>(Arrays.asList(METHODS))), true);
        int fields = 0;
        for (Field field : ChanceGame.class.getDeclaredFields()) {
            fields += Modifier.isPrivate(field.getModifiers()) ? 0 : 1;
        }
        check.due("fields that are not private", fields, 3);
        Constructor<?>[] constructors = ChanceGame.class.getDeclaredConstructors();
        check.due("constructors", constructors.length, 1);
        check.due("the constructor's parameters", constructors[0].getParameterCount(), 0);
        check.due("the constructor is public", Modifier.isPublic(constructors[0].getModifiers()), true);
        check.due("the class is final", Modifier.isFinal(ChanceGame.class.getModifiers()), true);
    }

    private static String told(Method method) {
        StringBuilder told = new StringBuilder();
        told.append(method.getReturnType().getSimpleName()).append(' ').append(method.getName());
        told.append('(').append(listed(method.getParameterTypes())).append(')');
        if (method.getExceptionTypes().length != 0) {
            told.append(" throws ").append(listed(method.getExceptionTypes()));
        }
        return told.toString();
    }

    private static String listed(Class<?>[] types) {
        StringBuilder listed = new StringBuilder();
        for (Class<?> type : types) {
            listed.append(listed.length() == 0 ? "" : ", ").append(type.getSimpleName());
        }
        return listed.toString();
    }

    private static void constants(Check check) {
        check.due("NONE", ChanceGame.NONE, -1);
        check.due("MIXED", ChanceGame.MIXED, -2);
        check.due("MANY", ChanceGame.MANY, -3);
    }
}
