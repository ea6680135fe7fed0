import java.io.IOException;
import java.lang.reflect.InvocationTargetException;
import java.lang.reflect.Method;
import java.nio.file.Files;
import java.nio.file.Path;
import java.util.regex.Matcher;
import java.util.regex.Pattern;

/** The calls that README.md shows, each with the answer behind it. */
public final class ReadmeTest {
    private static final Pattern MADE = Pattern.compile("NameRail rail = new NameRail\\(\\);");
    private static final Pattern CALL = Pattern.compile("rail\\.(\\w+)\\(([^)]*)\\); +// (-?\\d+)(:.*)?");

    public static void main(String[] args) throws ReflectiveOperationException, IOException {
        NameRail rail = null;
        boolean code = false;
        int shown = 0;
        int wrong = 0;
        for (String line : Files.readAllLines(Path.of("README.md"))) {
            if (line.startsWith("```")) {
                code = line.equals("```java");
                continue;
            }
            if (!code) {
                continue;
            }
            if (MADE.matcher(line).matches()) {
                rail = new NameRail();
                continue;
            }
            shown++;
            Matcher m = CALL.matcher(line);
            String got = m.matches() ? answer(rail, m.group(1), m.group(2)) : "nothing, for it isn't read";
            if (!m.matches() || !got.equals(m.group(3))) {
                wrong++;
                System.out.println(line + " answered " + got);
            }
        }
        System.out.println(wrong == 0 ? "all " + shown + " answers of README.md hold" : wrong + " don't hold");
        if (wrong != 0 || shown == 0) {
            System.exit(1);
        }
    }

    private static String answer(NameRail rail, String name, String told)
            throws IllegalAccessException, InvocationTargetException {
        String[] parts = told.isEmpty() ? new String[0] : told.split(", ");
        Object[] given = new Object[parts.length];
        for (int i = 0; i < parts.length; i++) {
            given[i] = Integer.decode(parts[i]);
        }
        for (Method m : NameRail.class.getDeclaredMethods()) {
            if (m.getName().equals(name) && m.getParameterCount() == given.length) {
                return String.valueOf(m.invoke(rail, given));
            }
        }
        return "nothing, for there is no such call";
    }
}
