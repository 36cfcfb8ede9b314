import java.lang.reflect.Method;
import java.nio.file.Files;
import java.nio.file.Path;
import java.util.Arrays;
import java.util.HashMap;
import java.util.Map;
import java.util.regex.Matcher;
import java.util.regex.Pattern;

/** The example of README.md: each call answers what stands behind it; run where README.md lies. */
public final class ReadmeTest {
    private static final Pattern CALL =
            Pattern.compile("(?:int (\\w+) = )?works\\.(\\w+)\\(([^)]*)\\);\\s*// (-?\\w+): ");

    public static void main(String[] args) throws Exception {
        Due due = new Due("ReadmeTest");
        BogForge works = new BogForge();
        Map<String, Integer> names = new HashMap<>();
        for (String line : example(Files.readString(Path.of("README.md")))) {
            Matcher call = CALL.matcher(line);
            boolean told = call.lookingAt();
            due.yes("a call with its answer in: " + line, told);
            if (!told) {
                continue;
            }
            String got = String.valueOf(answer(works, call.group(2), call.group(3), names));
            due.yes(line + " (answered " + got + ")", got.equals(call.group(4)));
            if (call.group(1) != null) {
                names.put(call.group(1), Integer.valueOf(got));
            }
        }
        due.finish();
    }

    /** The lines of the first piece of Java, without the one that makes the object. */
    private static String[] example(String text) {
        String[] lines = text.split("```java\n")[1].split("```")[0].split("\n");
        return Arrays.copyOfRange(lines, 1, lines.length);
    }

    private static Object answer(BogForge works, String name, String told, Map<String, Integer> names) throws Exception {
        Object[] numbers = Arrays.stream(told.split(", "))
                .filter(one -> !one.isEmpty())
                .map(one -> names.containsKey(one) ? names.get(one) : Integer.decode(one))
                .toArray();
        Class<?>[] types = new Class<?>[numbers.length];
        Arrays.fill(types, int.class);
        Method method = BogForge.class.getMethod(name, types);
        return method.invoke(works, numbers);
    }
}
