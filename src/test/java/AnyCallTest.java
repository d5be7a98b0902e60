import java.lang.reflect.InvocationTargetException;
import java.lang.reflect.Method;
import java.lang.reflect.Modifier;
import java.util.ArrayList;
import java.util.Random;

/**
 * Any call with any numbers in any state: it answers (the machine never throws); one that is
 * refused, or only tells or foretells, changes nothing. A twin that is spared those calls answers
 * all others alike, so nothing was changed that shows only later (what can be undone, what is kept).
 */
public final class AnyCallTest {
    private static final int[] ODD = {Integer.MIN_VALUE, Integer.MIN_VALUE + 1, -1000, -3, -2, -1, 24, 25, 60, 61,
        99, 200, 255, 256, 1000, Integer.MAX_VALUE - 1, Integer.MAX_VALUE};
    private static final String TELLING = " fault field letter gate word as far whole before feast least could which kinds odds look count ";
    private static final String[] TEXTS = {
        "thorn 0 2 reader;holly 0 1 poem;bramble 1 1 dogma;hazel 1 3 ivory;thorn 2 1 eoeo;gate 0 1 4;gate 1 2 6;word reader",
        "parish;thorn 1 1 e;thorn 1 1 o;gate 0 1 3;gate 1 0 2;dark 40", "hazel 3 9 aeiouaei;word aeiouaei;dark 99",
        "parish", "parish;holly 0 1 a", "thorn 9 9 fault", "", "gate 0 1 1;gate 0 1 2;gate 1 0 3;gate 0 1 4"};

    private final Random random;
    private final HedgeReader x = new HedgeReader();
    private final HedgeReader twin = new HedgeReader();

    private AnyCallTest(long seed) {
        random = new Random(seed);
    }

    public static void main(String[] args) throws Exception {
        ArrayList<Method> calls = new ArrayList<>();
        for (Method m : HedgeReader.class.getDeclaredMethods()) {
            if (Modifier.isPublic(m.getModifiers())) {
                calls.add(m);
            }
        }
        calls.sort((a, b) -> a.getName().compareTo(b.getName()));
        Checks.due("calls of the face", calls.size(), 36);
        for (long seed = 0; seed < 150; seed++) {
            new AnyCallTest(seed).go(calls);
        }
        Checks.end("AnyCallTest");
    }

    private void go(ArrayList<Method> calls) throws Exception {
        for (int i = 0; i < 512; i++) {
            if (random.nextInt(40) == 0) {
                tellBoth(TEXTS[random.nextInt(TEXTS.length)]);
            }
            call(calls.get(random.nextInt(calls.size())));
        }
        Checks.isTrue("the twin is alike", Checks.stateOf(x).equals(Checks.stateOf(twin)));
    }

    private void tellBoth(String text) {
        Checks.write(x, text);
        Checks.write(twin, text);
        Checks.due("parish() of " + text, x.parish(), twin.parish());
    }

    private void call(Method m) throws Exception {
        Object[] numbers = new Object[m.getParameterCount()];
        StringBuilder told = new StringBuilder(m.getName());
        for (int i = 0; i < numbers.length; i++) {
            numbers[i] = random.nextInt(6) == 0 ? ODD[random.nextInt(ODD.length)] : random.nextInt(8) - 1;
            told.append(' ').append(numbers[i]);
        }
        String ahead = Checks.stateOf(x);
        long answer = answerOf(m, x, numbers, told);
        if (answer < 0 || TELLING.contains(" " + m.getName() + " ")) {
            Checks.isTrue(told + " changes nothing", ahead.equals(Checks.stateOf(x)));
        } else {
            Checks.due(told + " of the twin", answerOf(m, twin, numbers, told), answer);
        }
    }

    private static long answerOf(Method m, HedgeReader of, Object[] numbers, StringBuilder told) throws IllegalAccessException {
        try {
            return ((Number) m.invoke(of, numbers)).longValue();
        } catch (InvocationTargetException thrown) {
            Checks.isTrue(told + " threw " + thrown.getCause(), false);
            return 0;
        }
    }
}
