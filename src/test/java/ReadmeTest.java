import java.lang.reflect.Method;
import java.lang.reflect.Modifier;
import java.nio.file.Files;
import java.nio.file.Path;
import java.util.regex.Matcher;
import java.util.regex.Pattern;

/** README.md's example answers what its comments say, and its table names every call. */
public final class ReadmeTest {
    private static final int LEAST_CALLS = 10;
    private static int asked = 0;
    private static int wrong = 0;

    public static void main(String[] args) throws Exception {
        String readme = Files.readString(Path.of("README.md"));
        example(between(readme, "```java\n", "```"));
        names(readme);
        System.out.println("  " + asked + " answers, " + wrong + " wrong");
        if (wrong != 0) {
            System.exit(1);
        }
    }

    private static String between(String text, String from, String to) {
        int start = text.indexOf(from);
        int end = start < 0 ? -1 : text.indexOf(to, start + from.length());
        return end < 0 ? "" : text.substring(start + from.length(), end);
    }

    private static void fail(String what) {
        wrong++;
        System.out.println("  README.md: " + what);
    }

    /** The green is written as the example does; each call behind it has its answer in a comment. */
    private static void example(String code) throws Exception {
        LimeDeaths x = Check.write(new LimeDeaths(), 0, between(code, "String green = \"", "\""));
        Matcher calls = Pattern.compile("(?m)^x\\.(\\w+)\\(([-\\d, ]*)\\);\\s*// (-?\\d+):").matcher(code);
        while (calls.find()) {
            asked++;
            long got = call(x, calls.group(1), calls.group(2));
            if (got != Long.parseLong(calls.group(3))) {
                fail(calls.group() + " answered " + got);
            }
        }
        long written = code.lines().filter(line -> line.startsWith("x.")).count();
        if (asked < LEAST_CALLS || asked != written - 1) {
            fail(written + " calls, of which " + asked + " have an answer (all but text() should)");
        }
    }

    private static long call(LimeDeaths x, String name, String arguments) throws Exception {
        String[] parts = arguments.isBlank() ? new String[0] : arguments.split(", *");
        Class<?>[] types = new Class<?>[parts.length];
        Object[] ints = new Object[parts.length];
        for (int k = 0; k < parts.length; k++) {
            types[k] = int.class;
            ints[k] = Integer.valueOf(parts[k]);
        }
        return ((Number) LimeDeaths.class.getMethod(name, types).invoke(x, ints)).longValue();
    }

    private static void names(String readme) {
        for (Method m : LimeDeaths.class.getDeclaredMethods()) {
            if (Modifier.isPublic(m.getModifiers()) && !readme.contains("`" + m.getName() + "()`")) {
                fail(m.getName() + "() is not named");
            }
        }
    }
}
