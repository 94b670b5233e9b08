import java.io.IOException;
import java.lang.reflect.Method;
import java.lang.reflect.Modifier;
import java.nio.file.Files;
import java.nio.file.Path;
import java.util.HashMap;
import java.util.Map;
import java.util.regex.Matcher;
import java.util.regex.Pattern;

/** What README.md says of the use: each call there answers what stands behind it. */
public final class ReadmeExamples extends Checks {
    private static final Pattern BLOCK = Pattern.compile("(?s)```java\n(.*?)```");
    private static final Pattern CALL =
            Pattern.compile("(?:int (\\w+) = )?x\\.(\\w+)\\(([^)]*)\\); +// (-?\\d+)(?::.*)?");
    private static final String NEW = "FirChain x = new FirChain();";

    public static void main(String[] args) throws IOException, ReflectiveOperationException {
        String text = Files.readString(Path.of("README.md"));
        Map<String, Method> face = face();
        int blocks = 0;
        Matcher block = BLOCK.matcher(text);
        while (block.find()) {
            blocks++;
            play(block.group(1), face);
        }
        due("how many examples README.md has", blocks, 2);
        for (Method method : face.values()) {
            Pattern row = Pattern.compile("(?m)^\\| `" + method.getName() + "\\(([^)]*)\\)` \\|");
            Matcher found = row.matcher(text);
            due("a row for " + method.getName(), found.find() ? 1 : 0, 1);
            due("how many it takes, " + method.getName(),
                    found.reset().find() ? numbers(found.group(1)).length : -1, method.getParameterCount());
        }
        end("README.md's examples");
    }

    private static Map<String, Method> face() {
        Map<String, Method> all = new HashMap<>();
        for (Method method : FirChain.class.getDeclaredMethods()) {
            if (Modifier.isPublic(method.getModifiers())) {
                all.put(method.getName(), method);
            }
        }
        return all;
    }

    private static String[] numbers(String list) {
        return list.isEmpty() ? new String[0] : list.split(", ");
    }

    /** A line that can't be read is wrong too, lest an example escape the test by its form. */
    private static void play(String block, Map<String, Method> face) throws ReflectiveOperationException {
        FirChain x = null;
        Map<String, Integer> names = new HashMap<>();
        for (String line : block.split("\n")) {
            Matcher call = CALL.matcher(line);
            if (line.equals(NEW)) {
                x = new FirChain();
            } else if (x == null || !call.matches() || !face.containsKey(call.group(2))) {
                due("README.md: " + line + " can be read", 0, 1);
            } else {
                long answer = answer(x, face.get(call.group(2)), numbers(call.group(3)), names);
                due("README.md: " + line, answer, Long.parseLong(call.group(4)));
                if (call.group(1) != null) {
                    names.put(call.group(1), (int) answer);
                }
            }
        }
    }

    private static long answer(FirChain x, Method method, String[] told, Map<String, Integer> names)
            throws ReflectiveOperationException {
        Object[] values = new Object[told.length];
        for (int i = 0; i < told.length; i++) {
            if (told[i].equals("true") || told[i].equals("false")) {
                values[i] = Boolean.valueOf(told[i]);
            } else {
                values[i] = names.containsKey(told[i]) ? names.get(told[i]) : Integer.valueOf(told[i]);
            }
        }
        return ((Number) method.invoke(x, values)).longValue();
    }
}
