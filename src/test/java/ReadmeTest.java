import java.nio.file.Files;
import java.nio.file.Path;
import java.util.TreeSet;
import java.util.regex.Matcher;
import java.util.regex.Pattern;

/** The calls that README.md shows, one behind the other, answer what is said behind them. */
public final class ReadmeTest {
    private static final Pattern TEXT = Pattern.compile("String text = \"(.*)\";");
    private static final Pattern CALL = Pattern.compile("x\\.(\\w+)\\((.*)\\);\\s+// (-?\\d+)(:.*)?");

    private ReadmeTest() {
    }

    public static void main(String[] args) throws Exception {
        String readme = Files.readString(Path.of("README.md"));
        HedgeReader x = new HedgeReader();
        TreeSet<String> shown = new TreeSet<>();
        for (String line : readme.split("\n")) {
            Matcher text = TEXT.matcher(line);
            Matcher call = CALL.matcher(line);
            if (text.matches()) {
                Checks.write(x, text.group(1));
                shown.add("write");
            } else if (call.matches()) {
                Checks.due(line, answer(x, call.group(1), call.group(2)), Long.parseLong(call.group(3)));
                shown.add(call.group(1));
            }
        }
        Checks.due("calls shown: " + shown, shown.size(), 36);
        for (java.lang.reflect.Field f : HedgeReader.class.getFields()) {
            Checks.isTrue(f.getName() + " is told", readme.contains("`" + f.getName() + "` " + f.getInt(null) + " "));
        }
        Checks.end("ReadmeTest");
    }

    private static long answer(HedgeReader x, String name, String told) throws Exception {
        String[] parts = told.isEmpty() ? new String[0] : told.split(", ");
        Class<?>[] types = new Class<?>[parts.length];
        Object[] numbers = new Object[parts.length];
        for (int i = 0; i < parts.length; i++) {
            types[i] = int.class;
            numbers[i] = Integer.parseInt(parts[i]);
        }
        return ((Number) HedgeReader.class.getMethod(name, types).invoke(x, numbers)).longValue();
    }
}
