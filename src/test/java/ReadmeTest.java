import java.io.IOException;
import java.lang.reflect.Array;
import java.lang.reflect.Field;
import java.lang.reflect.InvocationTargetException;
import java.lang.reflect.Method;
import java.lang.reflect.Modifier;
import java.nio.file.Files;
import java.nio.file.Path;
import java.util.Collections;
import java.util.IdentityHashMap;
import java.util.Set;
import java.util.TreeSet;
import java.util.regex.Matcher;
import java.util.regex.Pattern;

/** What README.md says of the class is so: the calls that it shows answer as it says. */
public final class ReadmeTest {
    private static final Check check = new Check("ReadmeTest");

    private static final String MAKING = "ValueMethods x = new ValueMethods();";
    private static final Pattern CALL = Pattern.compile(
        "x\\.(\\w+)\\(([^()]*)\\); +// (-?\\d+|true|false|nothing|throws \\w+)(: .+)?");
    private static final Pattern ROW = Pattern.compile("\\| `(\\w+)\\(([^()]*)\\)` \\|.*");
    private static final Pattern EXCEPTION = Pattern.compile("\\w+Exception\\b");
    private static final Pattern ROOM = Pattern.compile("(\\d+) objects and arrays, (\\d+) fields and elements");

    private static final Set<String> shown = new TreeSet<>();
    private static final Set<String> tabled = new TreeSet<>();

    public static void main(String[] args) throws IOException {
        String text = Files.readString(Path.of("README.md"));
        samples(text);
        tables(text);
        room(text);
        check.end();
    }

    // The samples: from a line ```java to a line ```.

    private static void samples(String text) {
        ValueMethods x = null;
        boolean inside = false;
        for (String line : text.lines().toList()) {
            if (line.startsWith("```")) {
                inside = line.equals("```java");
                // A sample that makes no object must not go on with the last one's.
                x = null;
            } else if (inside && line.equals(MAKING)) {
                x = new ValueMethods();
            } else if (inside && !line.isEmpty()) {
                sample(x, line);
            }
        }
        check.same("calls shown in samples", shown.toString(), face().toString());
    }

    private static void sample(ValueMethods x, String line) {
        Matcher call = CALL.matcher(line);
        boolean readable = x != null && call.matches();
        check.yes("can be made: " + line, readable);
        if (readable) {
            shown.add(call.group(1));
            check.same(line, answer(x, call.group(1), call.group(2)), call.group(3));
        }
    }

    private static String answer(ValueMethods x, String name, String arguments) {
        Method method = methodOf(name);
        String[] words = arguments.isEmpty() ? new String[0] : arguments.split(", ");
        if (method == null || method.getParameterCount() != words.length) {
            return "no such call";
        }
        Object[] values = new Object[words.length];
        for (int i = 0; i < words.length; i++) {
            values[i] = read(words[i], method.getParameterTypes()[i]);
        }
        try {
            Object got = method.invoke(x, values);
            return method.getReturnType() == void.class ? "nothing" : got.toString();
        } catch (InvocationTargetException e) {
            return "throws " + e.getCause().getClass().getSimpleName();
        } catch (IllegalAccessException e) {
            return "not public";
        }
    }

    private static Object read(String word, Class<?> type) {
        if (type == boolean.class) {
            // parseBoolean would read any other word as false.
            return word.equals("true") || word.equals("false") ? Boolean.valueOf(word) : (Object) word;
        }
        return type == int.class ? (Object) Integer.valueOf(word) : Long.valueOf(word);
    }

    private static Method methodOf(String name) {
        for (Method method : ValueMethods.class.getDeclaredMethods()) {
            if (Modifier.isPublic(method.getModifiers()) && method.getName().equals(name)) {
                return method;
            }
        }
        return null;
    }

    private static Set<String> face() {
        Set<String> names = new TreeSet<>();
        for (Method method : ValueMethods.class.getDeclaredMethods()) {
            if (Modifier.isPublic(method.getModifiers())) {
                names.add(method.getName());
            }
        }
        return names;
    }

    // The tables: a row for each call.

    private static void tables(String text) {
        for (String line : text.lines().toList()) {
            Matcher row = ROW.matcher(line);
            if (row.matches()) {
                row(line, row.group(1), row.group(2));
            }
        }
        check.same("calls in the tables", tabled.toString(), face().toString());
    }

    private static void row(String line, String name, String parameters) {
        Method method = methodOf(name);
        check.yes("there is such a call: " + name, method != null);
        if (method == null) {
            return;
        }
        tabled.add(name);
        int count = parameters.isEmpty() ? 0 : parameters.split(", ").length;
        check.same("parameters of " + name, count, method.getParameterCount());
        Set<String> thrown = new TreeSet<>();
        for (Class<?> type : method.getExceptionTypes()) {
            thrown.add(type.getSimpleName());
        }
        Set<String> told = new TreeSet<>();
        EXCEPTION.matcher(line).results().forEach(found -> told.add(found.group()));
        check.same("exceptions of " + name, told.toString(), thrown.toString());
        boolean refuses = method.getReturnType() == boolean.class;
        check.same(name + " can answer false", line.contains("`false`") ? "yes" : "no", refuses ? "yes" : "no");
    }

    // The room that an object takes.

    private static void room(String text) {
        Matcher told = ROOM.matcher(text.replace('\n', ' '));
        check.yes("README tells an object's room", told.find());
        ValueMethods x = new ValueMethods();
        Set<Object> objects = Collections.newSetFromMap(new IdentityHashMap<>());
        long cells = cellsOf(x, objects);
        check.same("objects and arrays", told.group(1), Integer.toString(objects.size()));
        check.same("fields and elements", told.group(2), Long.toString(cells));
        useAll(x);
        Set<Object> later = Collections.newSetFromMap(new IdentityHashMap<>());
        cellsOf(x, later);
        check.yes("the same objects after calls", later.equals(objects));
    }

    /** The fields and elements of the object and of all it holds; these are put into seen. */
    private static long cellsOf(Object object, Set<Object> seen) {
        if (object == null || !seen.add(object)) {
            return 0;
        }
        if (object.getClass().isArray()) {
            return Array.getLength(object);
        }
        long cells = 0;
        for (Field field : object.getClass().getDeclaredFields()) {
            if (!Modifier.isStatic(field.getModifiers())) {
                cells += 1 + cellsOf(held(field, object), seen);
            }
        }
        return cells;
    }

    /** What a field refers to; null for a number, which is no object. */
    private static Object held(Field field, Object object) {
        if (field.getType().isPrimitive()) {
            return null;
        }
        try {
            field.setAccessible(true);
            return field.get(object);
        } catch (IllegalAccessException e) {
            throw new IllegalStateException(e);
        }
    }

    private static void useAll(ValueMethods x) {
        x.line(100, 1000);
        x.line(200, 500);
        x.add(0, 100, true);
        x.less(0, 7, false);
        x.discount(10, 33);
        x.days(5, 15);
        x.rate(0, 3, 7);
        x.related(true, 1600, 100);
        x.turned(true);
        for (int method = 1; method <= 6; method++) {
            x.condition(method, true);
            x.figures(method, 1000, 10);
            x.value(1, 0);
            x.condition(method, false);
        }
        x.method();
        x.transaction(1);
        x.share(100, 1, true);
        x.plain(100, 1);
        x.count(6);
        x.sum(5);
    }
}
