import java.io.IOException;
import java.lang.reflect.Method;
import java.nio.file.Files;
import java.nio.file.Path;
import java.util.HashMap;
import java.util.Map;
import java.util.TreeSet;
import java.util.regex.Matcher;
import java.util.regex.Pattern;

/** README.md: the example's calls answer what stands behind them; the table has every call of the face. */
public final class ReadmeTest {
    private static final Pattern CALL
            = Pattern.compile("(?:int (\\w+) = )?town\\.(\\w+)\\(([^)]*)\\); *// (-?\\d+).*");
    private static final Pattern TAPE = Pattern.compile("tape\\(town, \"([^\"]*)\"\\);");

    private static final Map<String, Integer> NAMES = new HashMap<>();
    private static final Map<String, Method> FACE = new HashMap<>();

    public static void main(String[] args) throws IOException, ReflectiveOperationException {
        String readme = Files.readString(Path.of("README.md"));
        for (Method m : WoundTown.class.getMethods()) {
            if (m.getDeclaringClass() == WoundTown.class) FACE.put(m.getName(), m);
        }
        NAMES.put("WoundTown.NONE", WoundTown.NONE);
        example(readme);
        table(readme);
        Due.finish();
    }

    private static void example(String readme) throws ReflectiveOperationException {
        int from = readme.indexOf("```java\n") + 8;
        String[] lines = readme.substring(from, readme.indexOf("```", from)).split("\n");
        Due.due("the example begins with a new town", lines[0].equals("WoundTown town = new WoundTown();") ? 1 : 0, 1);
        WoundTown town = new WoundTown();
        for (int i = 1; i < lines.length; i++) {
            if (lines[i].isEmpty()) continue;
            Matcher tape = TAPE.matcher(lines[i]);
            Matcher call = CALL.matcher(lines[i]);
            if (tape.matches()) {
                Due.tape(town, tape.group(1));
            } else if (call.matches()) {
                call(town, call);
            } else {
                Due.due("a line that is no call with its answer: " + lines[i], 0, 1);
            }
        }
    }

    private static void call(WoundTown town, Matcher line) throws ReflectiveOperationException {
        String[] told = line.group(3).isEmpty() ? new String[0] : line.group(3).split(", ");
        Object[] given = new Object[told.length];
        for (int i = 0; i < told.length; i++) given[i] = sum(told[i]);
        int answer = ((Number) FACE.get(line.group(2)).invoke(town, given)).intValue();
        Due.due("README.md: " + line.group(), answer, Integer.parseInt(line.group(4)));
        if (line.group(1) != null) NAMES.put(line.group(1), answer);
    }

    private static int sum(String told) {
        int sum = 0;
        for (String part : told.split(" \\+ ")) sum += NAMES.containsKey(part) ? NAMES.get(part) : Integer.parseInt(part);
        return sum;
    }

    private static void table(String readme) {
        TreeSet<String> listed = new TreeSet<>();
        Matcher row = Pattern.compile("(?m)^\\| (`[^|]*`) \\|").matcher(readme);
        while (row.find()) {
            for (String name : row.group(1).replace("`", "").split(" ")) {
                Due.due(name + " stands once in the table", listed.add(name) ? 1 : 0, 1);
            }
        }
        Due.due("the calls of the table: " + listed, listed.equals(FACE.keySet()) ? 1 : 0, 1);
    }
}
