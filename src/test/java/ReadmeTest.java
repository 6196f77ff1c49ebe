import java.lang.reflect.Method;
import java.nio.file.Files;
import java.nio.file.Path;
import java.util.ArrayList;
import java.util.List;
import java.util.regex.Matcher;
import java.util.regex.Pattern;

/** Makes the calls that README.md shows, in their order on one object: each answers as is said there. */
public final class ReadmeTest {
    private static final Pattern CALL = Pattern.compile("x\\.(\\w+)\\((.*)\\); +// (NONE|true|false|-?\\d+): .*");
    private static final Pattern TEXT = Pattern.compile("feed\\(x, \"([^\"]*)\"\\)");

    public static void main(String[] args) throws Exception {
        SaltStreet x = new SaltStreet();
        int calls = 0;
        for (String line : shown(Files.readAllLines(Path.of("README.md")))) {
            if (line.equals("SaltStreet x = new SaltStreet();")) {
                continue;
            }
            Matcher call = CALL.matcher(line);
            boolean plain = call.matches();
            Checks.due("a line of README.md is a call with its answer: " + line, plain, true);
            if (plain) {
                Checks.due(line, answer(x, call.group(1), call.group(2)), want(call.group(3)));
                calls++;
            }
        }
        Checks.due("README.md shows calls", calls > 20, true);
        Checks.finish();
    }

    /** The lines within the blocks of Java. */
    private static List<String> shown(List<String> lines) {
        List<String> found = new ArrayList<>();
        boolean inside = false;
        for (String line : lines) {
            if (line.startsWith("```")) {
                inside = line.equals("```java");
            } else if (inside) {
                found.add(line);
            }
        }
        return found;
    }

    private static long answer(SaltStreet x, String name, String told) throws Exception {
        for (Method method : SaltStreet.class.getDeclaredMethods()) {
            if (method.getName().equals(name)) {
                Object got = method.invoke(x, numbers(x, told, method.getParameterTypes()));
                return got instanceof Boolean ? ((Boolean) got ? 1 : 0) : ((Number) got).longValue();
            }
        }
        throw new IllegalStateException("README.md shows a call that there is not: " + name);
    }

    private static Object[] numbers(SaltStreet x, String told, Class<?>[] types) {
        Matcher text = TEXT.matcher(told);
        if (text.matches()) {
            return new Object[] {Checks.feed(x, text.group(1))};
        }
        Object[] all = new Object[types.length];
        String[] parts = told.split(", ");
        for (int i = 0; i < all.length; i++) {
            long v = Long.parseLong(parts[i]);
            all[i] = types[i] == long.class ? (Object) v : (Object) (int) v;
        }
        return all;
    }

    private static long want(String answer) {
        switch (answer) {
            case "NONE":
                return SaltStreet.NONE;
            case "true":
                return 1;
            case "false":
                return 0;
            default:
                return Long.parseLong(answer);
        }
    }
}
