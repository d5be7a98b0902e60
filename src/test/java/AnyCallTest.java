import java.lang.reflect.Method;
import java.util.ArrayList;
import java.util.Random;

/**
 * Any call with any numbers in any state: it answers (the machine never throws),
 * a refused one changes nothing, nor does what only tells or foretells.
 */
public final class AnyCallTest {
    private static final int[] ODD = {Integer.MIN_VALUE, Integer.MIN_VALUE + 1, -1000, -3, -2, -1, 24, 25, 60, 61,
        99, 200, 255, 256, 1000, Integer.MAX_VALUE - 1, Integer.MAX_VALUE};
    private static final String TELLING = " fault field letter gate word as far whole before feast least could which kinds odds look count ";
    private static final String[] TEXTS = {
        "thorn 0 2 reader;holly 0 1 poem;bramble 1 1 dogma;hazel 1 3 ivory;thorn 2 1 eoeo;gate 0 1 4;gate 1 2 6;word reader",
        "parish;thorn 1 1 e;thorn 1 1 o;gate 0 1 3;gate 1 0 2;dark 40", "hazel 3 9 aeiouaei;word aeiouaei;dark 99",
        "parish", "parish;holly 0 1 a", "thorn 9 9 fault", "", "gate 0 1 1;gate 0 1 2;gate 1 0 3;gate 0 1 4"};

    private final Random random;
    private final HedgeReader x = new HedgeReader();

    private AnyCallTest(long seed) {
        random = new Random(seed);
    }

    public static void main(String[] args) throws Exception {
        ArrayList<Method> calls = new ArrayList<>();
        for (Method m : HedgeReader.class.getDeclaredMethods()) {
            if (java.lang.reflect.Modifier.isPublic(m.getModifiers())) {
                calls.add(m);
            }
        }
        calls.sort((a, b) -> a.getName().compareTo(b.getName()));
        Checks.due("calls of the face", calls.size(), 36);
        for (long seed = 0; seed < 150; seed++) {
            new AnyCallTest(seed).go(calls);
        }
        Checks.end("AnyCallTest");
    }

    private void go(ArrayList<Method> calls) throws Exception {
        for (int i = 0; i < 512; i++) {
            if (random.nextInt(40) == 0) {
                Checks.write(x, TEXTS[random.nextInt(TEXTS.length)]);
                x.parish();
            }
            call(calls.get(random.nextInt(calls.size())));
        }
    }

    private void call(Method m) throws Exception {
        Object[] numbers = new Object[m.getParameterCount()];
        StringBuilder told = new StringBuilder(m.getName());
        for (int i = 0; i < numbers.length; i++) {
            numbers[i] = random.nextInt(6) == 0 ? ODD[random.nextInt(ODD.length)] : random.nextInt(8) - 1;
            told.append(' ').append(numbers[i]);
        }
        String ahead = stateOf();
        long answer = ((Number) m.invoke(x, numbers)).longValue();
        String behind = stateOf();
        if (answer < 0 || TELLING.contains(" " + m.getName() + " ")) {
            Checks.isTrue(told + " changes nothing", ahead.equals(behind));
        }
    }

    private String stateOf() {
        StringBuilder all = new StringBuilder();
        for (int what = 0; what <= 13; what++) {
            all.append(x.count(what)).append(' ');
        }
        for (int f = 0; f < 7; f++) {
            all.append(x.field(f, 0)).append(x.field(f, 5)).append(x.field(f, 7)).append(x.kinds(f)).append(' ');
        }
        for (int s = 0; s < 4; s++) {
            for (int i = 0; i < 25; i++) {
                all.append(x.look(s, i)).append(' ');
            }
        }
        return all.append(x.fault()).toString();
    }
}
