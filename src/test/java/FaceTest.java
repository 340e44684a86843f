import java.lang.reflect.Constructor;
import java.lang.reflect.Field;
import java.lang.reflect.Method;
import java.lang.reflect.Modifier;
import java.util.Set;
import java.util.TreeSet;

/** The class shows the document's face and nothing else (LANGUAGE.md, rules 1, 5 and 11). */
public final class FaceTest {
    private static final Check check = new Check("FaceTest");

    private static final String[] METHODS = {
        "int line(long, long) throws IllegalArgumentException, IllegalStateException",
        "boolean add(int, long, boolean) throws IllegalArgumentException",
        "boolean less(int, long, boolean) throws IllegalArgumentException",
        "boolean discount(int, int) throws IllegalArgumentException, IllegalStateException",
        "boolean days(int, int)",
        "boolean rate(int, int, int)",
        "boolean condition(int, boolean)",
        "boolean figures(int, long, long)",
        "boolean related(boolean, long, int)",
        "void turned(boolean)",
        "int method()",
        "long value(int, int) throws IndexOutOfBoundsException, NoSuchElementException",
        "long transaction(int) throws IndexOutOfBoundsException",
        "long share(long, int, boolean) throws IndexOutOfBoundsException, IllegalArgumentException",
        "long plain(long, int) throws IndexOutOfBoundsException, IllegalArgumentException, ArithmeticException",
        "int count(int)",
        "long sum(int)",
    };

    public static void main(String[] args) {
        classItself();
        methods();
        fields();
        nested();
        check.end();
    }

    private static void classItself() {
        check.same("modifiers", Modifier.toString(ValueMethods.class.getModifiers()), "public final");
        // A class above it or an interface would hand down members of its own.
        check.same("the class above", ValueMethods.class.getSuperclass().getName(), "java.lang.Object");
        check.same("interfaces", names(ValueMethods.class.getInterfaces()), "");
        Constructor<?>[] constructors = ValueMethods.class.getDeclaredConstructors();
        check.same("constructors", constructors.length, 1);
        check.same("constructor", constructors[0].toString(), "public ValueMethods()");
    }

    private static void methods() {
        Set<String> face = new TreeSet<>();
        Set<String> publicNames = new TreeSet<>();
        Set<String> others = new TreeSet<>();
        for (Method method : ValueMethods.class.getDeclaredMethods()) {
            if (Modifier.isPrivate(method.getModifiers())) {
                others.add(method.getName());
            } else {
                check.same(method.getName(), Modifier.toString(method.getModifiers()), "public");
                face.add(signature(method));
                publicNames.add(method.getName());
            }
        }
        check.same("the face", face.toString(), new TreeSet<>(Set.of(METHODS)).toString());
        others.retainAll(publicNames);
        check.same("private methods with a public one's name", others.toString(), "[]");
    }

    private static String signature(Method method) {
        StringBuilder text = new StringBuilder();
        text.append(method.getReturnType().getSimpleName()).append(' ').append(method.getName());
        text.append('(').append(names(method.getParameterTypes())).append(')');
        if (method.getExceptionTypes().length > 0) {
            text.append(" throws ").append(names(method.getExceptionTypes()));
        }
        return text.toString();
    }

    private static String names(Class<?>[] types) {
        String[] names = new String[types.length];
        for (int i = 0; i < types.length; i++) {
            names[i] = types[i].getSimpleName();
        }
        return String.join(", ", names);
    }

    private static void fields() {
        int held = 0;
        for (Field field : ValueMethods.class.getDeclaredFields()) {
            int modifiers = field.getModifiers();
            if (field.getName().equals("NONE")) {
                check.same("NONE's modifiers", Modifier.toString(modifiers), "public static final");
                check.same("NONE's type", field.getType().getName(), "int");
            } else {
                check.yes(field.getName() + " is private", Modifier.isPrivate(modifiers));
            }
            if (Modifier.isStatic(modifiers)) {
                check.yes(field.getName() + " is final", Modifier.isFinal(modifiers));
            } else {
                held++;
            }
        }
        check.yes("some twenty fields at most", held <= 20);
        check.same("NONE", ValueMethods.NONE, -1);
    }

    private static void nested() {
        for (Class<?> inside : ValueMethods.class.getDeclaredClasses()) {
            int modifiers = inside.getModifiers();
            check.yes(inside.getName() + " is static", Modifier.isStatic(modifiers));
            check.no(inside.getName() + " is public", Modifier.isPublic(modifiers) || Modifier.isProtected(modifiers));
        }
    }
}
