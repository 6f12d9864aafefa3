import java.lang.reflect.InvocationTargetException;
import java.lang.reflect.Method;
import java.lang.reflect.Modifier;
import java.nio.file.Files;
import java.nio.file.Path;
import java.util.List;
import java.util.Set;
import java.util.TreeSet;
import java.util.regex.Matcher;
import java.util.regex.Pattern;

/** What README.md tells of the class is so. Run it from the project's directory. */
public final class ReadmeTest {
    private static final Pattern CALL = Pattern.compile("x\\.(\\w+)\\((.*)\\); *// (true|false|-?\\d+)\\b.*");
    private static final Pattern TABLE = Pattern.compile("\\| [^|`]+ \\| `([a-z ]+)` \\|");
    private static final Checks CHECK = new Checks();

    private static Method called(String name) {
        for (Method m : BuriedWithIt.class.getMethods()) {
            if (m.getName().equals(name) && m.getDeclaringClass() == BuriedWithIt.class) {
                return m;
            }
        }
        throw new IllegalArgumentException("there is no call " + name);
    }

    private static long answer(BuriedWithIt x, String name, String arguments)
            throws IllegalAccessException, InvocationTargetException {
        String[] each = arguments.isEmpty() ? new String[0] : arguments.split(", ");
        Object[] values = new Object[each.length];
        for (int i = 0; i < each.length; i++) {
            values[i] = Integer.decode(each[i]);
        }
        Object got = called(name).invoke(x, values);
        return got instanceof Boolean is ? (is ? 1 : 0) : ((Number) got).longValue();
    }

    private static long told(String answer) {
        return answer.equals("true") ? 1 : answer.equals("false") ? 0 : Long.parseLong(answer);
    }

    private static void firstRun(List<String> lines) throws IllegalAccessException, InvocationTargetException {
        CHECK.promise("README.md, a first run");
        int start = lines.indexOf("BuriedWithIt x = new BuriedWithIt();");
        CHECK.due("it is there", start >= 0, true);
        BuriedWithIt x = new BuriedWithIt();
        for (int i = start + 1; start >= 0 && i < lines.size() && !lines.get(i).startsWith("```"); i++) {
            Matcher m = CALL.matcher(lines.get(i));
            CHECK.due("line " + (i + 1) + " is a call with its answer", m.matches(), true);
            if (m.matches()) {
                CHECK.due("line " + (i + 1) + ": " + m.group(1), answer(x, m.group(1), m.group(2)), told(m.group(3)));
            }
        }
    }

    private static void table(List<String> lines) {
        CHECK.promise("README.md, the calls");
        Set<String> face = new TreeSet<>();
        for (Method m : BuriedWithIt.class.getDeclaredMethods()) {
            if (Modifier.isPublic(m.getModifiers())) {
                face.add(m.getName());
            }
        }
        for (String line : lines) {
            Matcher m = TABLE.matcher(line);
            if (m.matches()) {
                for (String name : m.group(1).split(" ")) {
                    CHECK.due(name + " is a call, told once", face.remove(name), true);
                }
            }
        }
        CHECK.due("calls not told: " + face, face.size(), 0);
    }

    private static void texts() {
        CHECK.promise("README.md, texts");
        BuriedWithIt x = Checks.made("33.........", "0002h;0200");
        CHECK.due("GOERS", x.count(2), 2);
        CHECK.due("THE RULE", Checks.say(x, "r*(1-o)*(1+k)").rule(), 0);
        BuriedWithIt y = Checks.made("13.h.", "0002h");
        CHECK.due("A YEAR", Checks.say(y, "n9l01b011g03d000").year(), 5);
    }

    public static void main(String[] args) throws Exception {
        List<String> lines = Files.readAllLines(Path.of("README.md"));
        firstRun(lines);
        table(lines);
        texts();
        CHECK.end();
    }
}
