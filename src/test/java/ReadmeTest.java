import java.io.IOException;
import java.lang.reflect.Method;
import java.nio.file.Files;
import java.nio.file.Path;
import java.util.HashMap;
import java.util.Map;
import java.util.TreeSet;
import java.util.regex.Matcher;
import java.util.regex.Pattern;

/** The examples of README.md, one behind the other on one object, answer what they say; each call of the face has one. */
public final class ReadmeTest {
    private static final Pattern EXAMPLE = Pattern.compile("^roots\\.(\\w+)\\((.*)\\); +// (-?\\d+|NO)(:.*)?$");
    private static final Due due = new Due("ReadmeTest");

    public static void main(String[] args) throws IOException, ReflectiveOperationException {
        Map<String, Method> face = new HashMap<>();
        for (Method m : EndlessRoots.class.getDeclaredMethods()) {
            if (java.lang.reflect.Modifier.isPublic(m.getModifiers())) {
                face.put(m.getName(), m);
            }
        }
        TreeSet<String> without = new TreeSet<>(face.keySet());
        EndlessRoots roots = new EndlessRoots();
        for (String line : Files.readAllLines(Path.of(System.getProperty("project.root", "."), "README.md"))) {
            if (!line.startsWith("roots.")) {
                continue;
            }
            Matcher m = EXAMPLE.matcher(line);
            boolean readable = m.matches() && face.containsKey(m.group(1));
            due.holds("an example can be read: " + line, readable);
            if (readable) {
                without.remove(m.group(1));
                long want = m.group(3).equals("NO") ? EndlessRoots.NO : Long.parseLong(m.group(3));
                due.is(line, answer(roots, face.get(m.group(1)), m.group(2)), want);
            }
        }
        due.holds("each call has an example; these have none: " + without, without.isEmpty());
        due.close();
    }

    private static long answer(EndlessRoots roots, Method call, String numbers) throws ReflectiveOperationException {
        String[] words = numbers.isEmpty() ? new String[0] : numbers.split(", ");
        Class<?>[] types = call.getParameterTypes();
        Object[] given = new Object[types.length];
        for (int k = 0; k < types.length; k++) {
            long n = words[k].startsWith("'") ? words[k].charAt(1) : Long.parseLong(words[k]);
            given[k] = types[k] == int.class ? (Object) (int) n : (Object) n;
        }
        return ((Number) call.invoke(roots, given)).longValue();
    }
}
