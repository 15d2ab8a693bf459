import java.lang.reflect.InvocationTargetException;
import java.lang.reflect.Method;
import java.nio.file.Files;
import java.nio.file.Path;
import java.util.regex.Matcher;
import java.util.regex.Pattern;

/** The calls in README.md, one after another: each answers what stands first in the comment behind it. */
public final class ReadmeTest {
    private static final Desk d = new Desk("ReadmeTest");
    private static final Pattern CALL = Pattern.compile("wash\\.(\\w+)\\((.*)\\); *// ([\\w.]+).*");
    private static final Pattern TAPE = Pattern.compile("tape\\(wash, \"(.*)\"\\);");

    public static void main(String[] args) throws Exception {
        Path program = Path.of(System.getProperty("program", "src/main/java/ShirtWash.java")).toAbsolutePath();
        boolean code = false;
        ShirtWash wash = null;
        for (String line : Files.readAllLines(program.resolve("../../../../README.md").normalize())) {
            if (line.startsWith("```")) {
                code = line.equals("```java");
            } else if (line.equals("ShirtWash wash = new ShirtWash();")) {
                wash = new ShirtWash();
            } else if (code) {
                follow(wash, line);
            }
        }
        d.end();
    }

    private static void follow(ShirtWash wash, String line) throws Exception {
        Matcher call = CALL.matcher(line);
        Matcher tape = TAPE.matcher(line);
        if (tape.matches()) {
            Desk.tape(wash, tape.group(1));
        } else if (call.matches()) {
            String got = answer(wash, call.group(1), call.group(2));
            d.due(line, call.group(3), () -> got);
        } else {
            d.due(line, "a call and its answer", () -> "neither");
        }
    }

    private static String answer(ShirtWash wash, String name, String told) throws Exception {
        String[] parts = told.isEmpty() ? new String[0] : told.split(", *");
        for (Method method : ShirtWash.class.getMethods()) {
            if (method.getName().equals(name) && method.getParameterCount() == parts.length) {
                try {
                    return String.valueOf(method.invoke(wash, values(method, parts)));
                } catch (InvocationTargetException e) {
                    return "throws." + e.getCause().getClass().getSimpleName();
                }
            }
        }
        return "there is no such call";
    }

    private static Object[] values(Method method, String[] parts) {
        Object[] values = new Object[parts.length];
        for (int i = 0; i < parts.length; i++) {
            boolean truth = method.getParameterTypes()[i] == boolean.class;
            values[i] = truth ? (Object) Boolean.valueOf(parts[i]) : Long.decode(parts[i]).intValue();
        }
        return values;
    }
}
