import java.io.IOException;
import java.lang.reflect.InvocationTargetException;
import java.lang.reflect.Method;
import java.nio.file.Files;
import java.nio.file.Path;
import java.util.Set;
import java.util.TreeSet;
import java.util.regex.Matcher;
import java.util.regex.Pattern;

/** The example of README.md answers what its comments say, and its table has every call of the face. */
public final class ReadmeTest {
    private static final Pattern EXAMPLE = Pattern.compile("rack\\.(\\w+)\\((.*?)\\);\\s+// ([^:]+): .*");
    private static final Pattern ROW = Pattern.compile("\\| `(\\w+)\\(.*?\\)` \\|.*");

    public static void main(String[] args) throws IOException {
        Due due = new Due();
        CellRack rack = new CellRack();
        Set<String> rows = new TreeSet<>();
        for (String line : Files.readAllLines(Path.of("README.md"))) {
            Matcher row = ROW.matcher(line);
            if (row.matches()) {
                rows.add(row.group(1));
            }
            if (line.startsWith("rack.")) {
                example(due, rack, line);
            }
        }
        Set<String> face = new TreeSet<>();
        for (Method m : CellRack.class.getMethods()) {
            if (m.getDeclaringClass() == CellRack.class) {
                face.add(m.getName());
            }
        }
        due.is("the calls in the table", face, () -> rows);
        due.end();
    }

    private static void example(Due due, CellRack rack, String line) {
        Matcher m = EXAMPLE.matcher(line);
        due.is("a call with its answer: " + line, true, m::matches);
        if (m.matches()) {
            due.is(line, m.group(3), () -> told(rack, m.group(1), m.group(2)));
        }
    }

    private static String told(CellRack rack, String name, String values) {
        String[] all = values.isEmpty() ? new String[0] : values.split(", ");
        for (Method m : CellRack.class.getMethods()) {
            if (m.getName().equals(name) && m.getParameterCount() == all.length) {
                return called(rack, m, all);
            }
        }
        return "there is no such call";
    }

    private static String called(CellRack rack, Method method, String[] all) {
        Class<?>[] types = method.getParameterTypes();
        Object[] values = new Object[all.length];
        for (int i = 0; i < all.length; i++) {
            if (types[i] == long.class) {
                values[i] = Long.valueOf(all[i].replace("L", ""));
            } else {
                values[i] = Integer.valueOf(all[i]);
            }
        }
        try {
            return String.valueOf(method.invoke(rack, values));
        } catch (InvocationTargetException e) {
            return e.getCause().getClass().getSimpleName();
        } catch (IllegalAccessException e) {
            return "the call is not public";
        }
    }
}
