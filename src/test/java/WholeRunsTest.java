import java.lang.reflect.InvocationTargetException;
import java.lang.reflect.Method;
import java.lang.reflect.Modifier;
import java.util.Map;
import java.util.Random;
import java.util.TreeMap;
import java.util.TreeSet;

/**
 * Whole runs of 512 calls: texts (right ones, and wrong ones) letter by letter, and between them any
 * calls with numbers in and just out of their bounds; each answer is the one of PlainReader.
 */
public final class WholeRunsTest {
    private static final int RUNS = 800;
    private static final int CALLS = 512;
    private static final String[] KIND_WORDS = {"thorn", "holly", "bramble", "hazel"};
    // What numbers a call is told, each by its bounds: they are chosen from just below to just above.
    private static final Map<String, int[]> BOUNDS = Map.ofEntries(Map.entry("write", new int[] {0, 255}), Map.entry("field", new int[] {0, 6, 0, 7}),
        Map.entry("letter", new int[] {0, 6, 0, 7}), Map.entry("gate", new int[] {0, 8, 0, 2}), Map.entry("word", new int[] {0, 7, -1, 7}),
        Map.entry("as", new int[] {0, 6, 0, 4}), Map.entry("through", new int[] {0, 8}), Map.entry("rain", new int[] {1, 9}),
        Map.entry("plough", new int[] {0, 6}), Map.entry("keep", new int[] {0, 1}), Map.entry("back", new int[] {0, 1}),
        Map.entry("far", new int[] {0, 6, 0, 6}), Map.entry("whole", new int[] {0, 3}), Map.entry("before", new int[] {0, 3}),
        Map.entry("feast", new int[] {-2, 6}), Map.entry("least", new int[] {0, 3}), Map.entry("could", new int[] {0, 6, 0, 1}),
        Map.entry("which", new int[] {0, 6, 0, 1}), Map.entry("seen", new int[] {0, 6, 0, 8, 0, 60}), Map.entry("kinds", new int[] {0, 6}),
        Map.entry("odds", new int[] {0, 6, 0, 8, 0, 10, 0, 1}), Map.entry("shelf", new int[] {0, 3, 0, 2, 0, 24}),
        Map.entry("lay", new int[] {0, 3, 0, 2, 0, 23, -70000, 70000}), Map.entry("look", new int[] {0, 3, 0, 23}),
        Map.entry("copy", new int[] {0, 3, 0, 24, 0, 3, 0, 24, 0, 24}), Map.entry("drop", new int[] {0, 3}),
        Map.entry("list", new int[] {0, 3, 0, 2, 0, 24}), Map.entry("count", new int[] {0, 13}));
    private static final String[] OFTEN = {"through", "through", "through", "read", "read", "read", "day", "rain", "birds", "plough",
        "undo", "keep", "back", "feast", "which", "could", "whole", "before", "least", "odds", "seen", "kinds", "shelf", "copy", "lay", "list"};
    private static final TreeMap<String, Method> FACE = new TreeMap<>();
    // Which answers below 0 each call gave.
    private static final TreeMap<String, TreeSet<Long>> REFUSALS = new TreeMap<>();

    private final Random random;
    private final HedgeReader x = new HedgeReader();
    private final PlainReader plain = new PlainReader();
    private final StringBuilder run = new StringBuilder();
    private int calls = 0;
    private int lastField = 0;

    private WholeRunsTest(long seed) {
        random = new Random(seed);
    }

    public static void main(String[] args) throws Exception {
        for (Method m : HedgeReader.class.getDeclaredMethods()) {
            if (Modifier.isPublic(m.getModifiers())) {
                FACE.put(m.getName(), m);
                REFUSALS.put(m.getName(), new TreeSet<>());
            }
        }
        for (long seed = 0; seed < RUNS; seed++) {
            new WholeRunsTest(seed).go();
        }
        eachRefusalWasThere();
        Checks.end("WholeRunsTest");
    }

    /** The runs came to each refusal that the document names (DAY 999 is too far for 512 calls). */
    private static void eachRefusalWasThere() {
        String[] wanted = {"write -3 -5", "fault -1", "parish -4", "field -3 -2", "letter -2 -1", "gate -3 -2", "word -2", "as -4 -3 -2",
            "through -4 -2", "read -4", "rain -3", "plough -4 -2", "undo -4", "keep -2", "back -4 -2", "far -2 -1", "whole -2 -1", "before -2",
            "feast -3 -1", "least -2 -1", "could -3 -2", "which -3 -2 -1", "seen -5 -3 -2", "kinds -2", "odds -3 -2", "shelf -14 -3 -2",
            "lay -13 -12 -11 -3 -2", "look -13 -11 -2", "copy -15 -13 -11 -2", "drop -11 -2", "list -13 -12 -11 -3 -2", "count -3 -1"};
        for (String want : wanted) {
            String[] parts = want.split(" ");
            TreeSet<Long> due = new TreeSet<>();
            for (int i = 1; i < parts.length; i++) {
                due.add(Long.parseLong(parts[i]));
            }
            TreeSet<Long> had = REFUSALS.remove(parts[0]);
            Checks.isTrue(parts[0] + " answered " + had + " below 0, due are " + due, had.equals(due));
        }
        for (String name : REFUSALS.keySet()) {
            Checks.isTrue(name + " is never refused " + REFUSALS.get(name), REFUSALS.get(name).isEmpty());
        }
    }

    private int any(int low, int high) {
        return low + random.nextInt(high - low + 1);
    }

    private boolean oneOf(int many) {
        return random.nextInt(many) == 0;
    }

    private void go() throws Exception {
        String[] names = FACE.keySet().toArray(new String[0]);
        while (calls < CALLS) {
            if (calls == 0 && !oneOf(8) || oneOf(60)) {
                tellText();
            }
            String name = oneOf(3) ? names[any(0, names.length - 1)] : OFTEN[any(0, OFTEN.length - 1)];
            Object[] numbers = numbersFor(name);
            ask(name, numbers);
            lookBehind(name, numbers);
        }
    }

    /** What came to a SHELF is seen only by looking there. */
    private void lookBehind(String name, Object[] numbers) throws Exception {
        if (name.equals("lay")) {
            ask("look", numbers[0], numbers[2]);
        } else if (name.equals("copy")) {
            ask("look", numbers[2], (Integer) numbers[3] + any(0, 2));
        } else if (name.equals("list")) {
            ask("look", numbers[0], (Integer) numbers[2] + any(0, 2));
        }
    }

    private Object[] numbersFor(String name) {
        int[] bounds = BOUNDS.getOrDefault(name, new int[0]);
        Object[] numbers = new Object[bounds.length / 2];
        for (int i = 0; i < numbers.length; i++) {
            numbers[i] = number(i, bounds[2 * i], bounds[2 * i + 1]);
        }
        if (name.equals("seen") && oneOf(2)) {
            int n = any(0, 8);
            numbers[1] = n;
            numbers[2] = new int[] {n, 2 * n + 1, 4 * n + 2}[any(0, 2)];
        }
        return numbers;
    }

    private Object number(int i, int low, int high) {
        if (oneOf(30)) {
            return oneOf(2) ? low - 1 : high + 1;
        }
        if (oneOf(100)) {
            return oneOf(2) ? any(Integer.MIN_VALUE / 2, -1) : oneOf(2) ? Integer.MAX_VALUE : Integer.MIN_VALUE;
        }
        // Mostly FIELDS that there are, and low places on SHELVES, so that not all is refused.
        boolean ofField = i == 0 && high == 6 && low == 0;
        if (ofField && x.count(0) > 0 && !oneOf(9)) {
            lastField = oneOf(2) && lastField < x.count(0) ? lastField : any(0, x.count(0) - 1);
            return lastField;
        }
        return any(low, high >= 23 && high < 60 && oneOf(2) ? high / 3 : high);
    }

    private void ask(String name, Object... numbers) throws Exception {
        if (calls >= CALLS) {
            return;
        }
        calls++;
        run.append(' ').append(name).append(java.util.Arrays.toString(numbers));
        Method m = FACE.get(name);
        long got = answer(m, x, numbers);
        if (got < 0) {
            REFUSALS.get(name).add(got);
        }
        long want = answer(PlainReader.class.getDeclaredMethod(name, m.getParameterTypes()), plain, numbers);
        Checks.due(got == want ? name : "the last of the run" + run, got, want);
    }

    private static long answer(Method m, Object of, Object[] numbers) throws IllegalAccessException {
        try {
            return ((Number) m.invoke(of, numbers)).longValue();
        } catch (InvocationTargetException thrown) {
            throw new IllegalStateException(m.getName() + java.util.Arrays.toString(numbers), thrown.getCause());
        }
    }

    private void tellText() throws Exception {
        StringBuilder text = new StringBuilder();
        int many = any(0, 20);
        int size = many < 3 ? any(8, 10) : many == 3 ? any(19, 21) : any(1, calls == 0 ? 14 : 4);
        for (int c = 0; c < size; c++) {
            text.append(c == 0 ? "" : ";").append(many < 4 ? smallClause(many) : clause(calls == 0 ? c : 9));
        }
        if (oneOf(6)) {
            text.setCharAt(any(0, text.length() - 1), oneOf(3) ? (char) any(0, 255) : " ;0a7A".charAt(any(0, 5)));
        }
        int end = oneOf(12) ? any(0, text.length()) : text.length();
        for (int i = 0; i < end; i++) {
            ask("write", (int) text.charAt(i));
        }
        ask("fault");
        ask("parish");
        if (oneOf(3)) {
            ask("erase");
        }
    }

    /** One of which very many stand in a text. */
    private String smallClause(int sort) {
        switch (sort) {
            case 0: return "gate " + any(0, 1) + " " + any(1, 2) + " " + any(3, 9);
            case 1: return "word " + line();
            case 2: return "hazel 0 " + any(1, 9) + " " + line();
            default: return "dark " + any(90, 99);
        }
    }

    /** Mostly a number in its bounds. */
    private int near(int low, int high) {
        return oneOf(40) ? oneOf(2) ? low - 1 : high + 1 : oneOf(9) ? oneOf(2) ? low : high : any(low, high);
    }

    /** The first ones of a first text are FIELDS, so that GATES can be there. */
    private String clause(int place) {
        int sort = place < 3 ? 0 : any(0, 11);
        if (sort < 4) {
            return KIND_WORDS[any(0, 3)] + " " + near(0, 3) + " " + near(1, oneOf(2) ? 9 : 2) + " " + line();
        }
        if (sort < 8) {
            int a = any(0, 3);
            return "gate " + a + " " + (a + any(1, 3)) % 4 + " " + near(1, oneOf(4) ? 30 : 9);
        }
        return sort < 10 ? "word " + line() : sort == 10 || oneOf(4) ? "dark " + near(10, 99) : oneOf(3) ? "parish" : "word " + line();
    }

    private String line() {
        StringBuilder line = new StringBuilder();
        String letters = oneOf(3) ? "abcdefghijklmnopqrstuvwxyz" : "aeiob";
        int size = oneOf(2) ? near(1, 8) : any(3, 4);
        for (int i = 0; i < size; i++) {
            line.append(letters.charAt(any(0, letters.length() - 1)));
        }
        return line.toString();
    }
}
