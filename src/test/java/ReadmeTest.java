import java.io.IOException;
import java.lang.reflect.Method;
import java.lang.reflect.Modifier;
import java.nio.file.Files;
import java.nio.file.Path;
import java.util.ArrayList;
import java.util.HashSet;
import java.util.List;
import java.util.Set;
import java.util.regex.Matcher;
import java.util.regex.Pattern;

/** The calls in README.md answer what stands behind them there, and each call of the face is among them. */
public final class ReadmeTest {
    private static final Pattern CALL = Pattern.compile("valley\\.(\\w+)\\((.*)\\); +// (-?\\d+)(:.*)?");
    private static int wrong;
    private static int asked;

    private static Object argument(String word) {
        if (word.equals("true") || word.equals("false")) return word.equals("true");
        return word.startsWith("'") ? (Object) (int) word.charAt(1) : (Object) Integer.parseInt(word);
    }

    private static long answer(HourValley valley, String name, String words) throws ReflectiveOperationException {
        List<Object> arguments = new ArrayList<>();
        for (String word : words.isEmpty() ? new String[0] : words.split(", ")) arguments.add(argument(word));
        for (Method m : HourValley.class.getMethods()) {
            if (m.getName().equals(name) && m.getParameterCount() == arguments.size()) return ((Number) m.invoke(valley, arguments.toArray())).longValue();
        }
        throw new NoSuchMethodException(name);
    }

    private static void tell(String what) {
        wrong++;
        System.out.println("README.md: " + what);
    }

    public static void main(String[] args) throws IOException, ReflectiveOperationException {
        HourValley valley = new HourValley();
        Set<String> shown = new HashSet<>();
        for (String line : Files.readAllLines(Path.of("README.md"))) {
            if (!line.startsWith("valley.")) continue;
            Matcher call = CALL.matcher(line);
            if (!call.matches()) {
                tell("not to be read: " + line);
                continue;
            }
            asked++;
            shown.add(call.group(1));
            long got = answer(valley, call.group(1), call.group(2));
            if (got != Long.parseLong(call.group(3))) tell(line + " answered " + got);
        }
        for (Method m : HourValley.class.getDeclaredMethods()) {
            if (Modifier.isPublic(m.getModifiers()) && !shown.contains(m.getName())) tell(m.getName() + " isn't shown");
        }
        System.out.println("ReadmeTest: " + asked + " answers, " + wrong + " wrong");
        if (wrong != 0) System.exit(1);
    }
}
