import java.util.function.LongSupplier;

/** What the tests of the document's sentences share; each of their methods quotes the sentence that it tests. */
abstract class Sentences {
    static final int NONE = -1;
    static final int UNKNOWN = -2;
    static final int OUTSIDE = -3;
    static final int NOT = -4;
    static final int FULL = -5;
    static final int NULL = -11;
    static final int CAST = -12;
    static final int INDEX = -13;
    static final int SIZE = -14;
    static final int STORE = -15;
    static final long BASE = 10000000000L;
    static final int LEAST_INT = Integer.MIN_VALUE;
    static final int MOST_INT = Integer.MAX_VALUE;

    // Field 0 thorn, 1 holly, 2 bramble, 3 hazel; 4 cannot be come to.
    private static final String FIELDS =
        "thorn 0 2 reader;holly 0 1 poem;bramble 1 1 dogma;hazel 1 3 ivory;thorn 2 1 eoeo";
    private static final String GATES = "gate 0 1 4;gate 1 2 6;gate 0 2 15;gate 2 3 5;gate 3 2 3";
    private static final String WORDS = "word reader;word dogma;word dogme;word poem;word pour;word roem;word ivory";

    static void sentence(String part, String words) {
        Checks.sentence(part, words);
    }

    static void due(String what, long got, long want) {
        Checks.due(what, got, want);
    }

    static HedgeReader told(String... texts) {
        return Checks.told(texts);
    }

    static void tell(HedgeReader x, String text) {
        Checks.tell(x, text);
    }

    static void faultIs(HedgeReader x, String text, int want) {
        Checks.faultIs(x, text, want);
    }

    static void noFault(HedgeReader x, String... texts) {
        for (String text : texts) {
            Checks.faultIs(x, text, NONE);
        }
    }

    /** A parish of all KINDS, three TALES, gates and words; 24 LETTERS. */
    static HedgeReader five() {
        return told(FIELDS, GATES, WORDS);
    }

    /** That parish in the midst of things: all that can be told is something. */
    static HedgeReader lively() {
        HedgeReader x = five();
        x.day();
        x.rain(4);
        x.through(0);
        x.read();
        x.keep(0);
        x.seen(0, 3, 7);
        x.shelf(0, 0, 4);
        x.shelf(1, 1, 2);
        x.shelf(2, 0, 3);
        x.lay(0, 0, 1, 77);
        Checks.write(x, "dark 70");
        return x;
    }

    /** A call that is refused changes nothing. */
    static void refused(HedgeReader x, String what, LongSupplier call, int want) {
        String ahead = Checks.stateOf(x);
        due(what, call.getAsLong(), want);
        Checks.isTrue(what + " changes nothing", ahead.equals(Checks.stateOf(x)));
    }

    /** A number below its bounds and above them, and far off. */
    static int[] off(int low, int high) {
        return new int[] {low - 1, high + 1, -1000, 1000, LEAST_INT, MOST_INT};
    }

    static void numbersAre(HedgeReader x, int shelf, int... want) {
        for (int i = 0; i < want.length; i++) {
            due("shelf " + shelf + " at " + i, x.look(shelf, i), BASE + want[i]);
        }
        due("end of shelf " + shelf, x.look(shelf, want.length), INDEX);
    }
}
