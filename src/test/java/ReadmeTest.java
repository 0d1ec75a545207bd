import java.io.IOException;
import java.lang.reflect.Method;
import java.lang.reflect.Modifier;
import java.nio.file.Files;
import java.nio.file.Path;
import java.util.Arrays;
import java.util.Set;
import java.util.TreeSet;
import java.util.regex.Matcher;
import java.util.regex.Pattern;

/** Makes the calls that README.md shows, in their order, and looks whether each answers what is said there. */
public final class ReadmeTest {
    private static final Pattern MAKES = Pattern.compile("ThreeOffers x = new ThreeOffers\\(\\);");
    private static final Pattern CALLS = Pattern.compile("x\\.(\\w+)\\(([^)]*)\\); +// (-?\\d+)(: .*)?");

    private final Check check = new Check();
    private final Set<String> shown = new TreeSet<>();
    private ThreeOffers x = null;

    public static void main(String[] args) throws IOException, ReflectiveOperationException {
        new ReadmeTest().read(Path.of(System.getProperty("readme")));
    }

    private void read(Path readme) throws IOException, ReflectiveOperationException {
        boolean inCode = false;
        for (String line : Files.readAllLines(readme)) {
            if (line.startsWith("```")) inCode = line.equals("```java");
            else if (inCode) follow(line);
        }
        for (Method method : ThreeOffers.class.getDeclaredMethods()) {
            if (isOpen(method)) check.holds(method.getName() + " is shown", shown.contains(method.getName()));
        }
        check.end();
    }

    private void follow(String line) throws ReflectiveOperationException {
        Matcher call = CALLS.matcher(line);
        if (MAKES.matcher(line).matches()) {
            x = new ThreeOffers();
        } else if (call.matches()) {
            check.due(line, answer(call.group(1), call.group(2)), Long.parseLong(call.group(3)));
            shown.add(call.group(1));
        } else {
            check.holds("is a call with its answer: " + line, false);
        }
    }

    private long answer(String name, String arguments) throws ReflectiveOperationException {
        String[] told = arguments.isEmpty() ? new String[0] : arguments.split(", ");
        Method method = Arrays.stream(ThreeOffers.class.getDeclaredMethods())
            .filter(one -> isOpen(one) && one.getName().equals(name)).findFirst().orElseThrow();
        Object[] values = new Object[told.length];
        for (int i = 0; i < told.length; i++) {
            long value = Long.decode(told[i].replace("L", ""));
            if (method.getParameterTypes()[i] == long.class) values[i] = value;
            else values[i] = Math.toIntExact(value);
        }
        return ((Number) method.invoke(x, values)).longValue();
    }

    private static boolean isOpen(Method method) {
        return Modifier.isPublic(method.getModifiers());
    }
}
