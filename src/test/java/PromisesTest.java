/** Each promise of the document: ordinary inputs, the edges that it names, wrong inputs. */
public final class PromisesTest {
    private static final int NONE = HedgeReader.NONE;
    private static final int UNKNOWN = HedgeReader.UNKNOWN;
    private static final int OUTSIDE = HedgeReader.OUTSIDE;
    private static final int NOT = HedgeReader.NOT;
    private static final int FULL = HedgeReader.FULL;
    private static final int NULL = HedgeReader.NULL;
    private static final int CAST = HedgeReader.CAST;
    private static final int INDEX = HedgeReader.INDEX;
    private static final int SIZE = HedgeReader.SIZE;
    private static final int STORE = HedgeReader.STORE;
    private static final long BASE = 10000000000L;

    // Field 0 thorn, 1 holly, 2 bramble, 3 hazel; 4 cannot be come to.
    private static final String FIVE =
        "thorn 0 2 reader;holly 0 1 poem;bramble 1 1 dogma;hazel 1 3 ivory;thorn 2 1 eoeo";
    private static final String GATES = "gate 0 1 4;gate 1 2 6;gate 0 2 15;gate 2 3 5;gate 3 2 3";
    private static final String WORDS = "word reader;word dogma;word dogme;word poem;word pour;word roem;word ivory";

    public static void main(String[] args) {
        newObject();
        write();
        erase();
        faultInNumbersAndLines();
        faultInTokens();
        faultInCounts();
        parish();
        parishBegins();
        field();
        letter();
        gate();
        word();
        as();
        through();
        read();
        readHollyWet();
        rain();
        birds();
        plough();
        day();
        undo();
        undoEach();
        keepAndBack();
        far();
        whole();
        before();
        feast();
        feastTies();
        least();
        could();
        which();
        seen();
        forget();
        kinds();
        odds();
        shelf();
        lay();
        look();
        copy();
        drop();
        list();
        count();
        Checks.end("PromisesTest");
    }

    private static void due(String what, long got, long want) {
        Checks.due(what, got, want);
    }

    private static HedgeReader five() {
        return Checks.told(FIVE, GATES, WORDS);
    }

    // Promise 1
    private static void newObject() {
        int[] constants = {NONE, UNKNOWN, OUTSIDE, NOT, FULL, NULL, CAST, INDEX, SIZE, STORE};
        int[] values = {-1, -2, -3, -4, -5, -11, -12, -13, -14, -15};
        for (int c = 0; c < values.length; c++) {
            due("constant " + c, constants[c], values[c]);
        }
        HedgeReader x = new HedgeReader();
        for (int what = 0; what <= 13; what++) {
            due("new count(" + what + ")", x.count(what), what == 3 ? 60 : what == 6 ? NONE : 0);
        }
        for (int s = 0; s < 4; s++) {
            due("new look", x.look(s, 0), NULL);
        }
        due("new undo", x.undo(), NOT);
        due("new back", x.back(0), NOT);
    }

    // Promise 2
    private static void write() {
        HedgeReader x = new HedgeReader();
        due("write below", x.write(-1), OUTSIDE);
        due("write above", x.write(256), OUTSIDE);
        due("write least", x.write(0), 1);
        due("write most", x.write(255), 2);
        for (int i = 3; i <= 200; i++) {
            due("write", x.write('a'), i);
        }
        due("write full", x.write('a'), FULL);
        due("write outside ahead of full", x.write(256), OUTSIDE);
        due("count(13)", x.count(13), 200);
    }

    // Promise 3
    private static void erase() {
        HedgeReader x = new HedgeReader();
        due("erase nothing", x.erase(), 0);
        Checks.write(x, "thorn");
        due("erase", x.erase(), 5);
        due("erase again", x.erase(), 0);
        due("write behind erase", x.write('a'), 1);
    }

    // Promise 4
    private static void faultInNumbersAndLines() {
        HedgeReader x = new HedgeReader();
        Checks.faultIs(x, "thorn 3 9 abcdefgh", NONE);
        Checks.faultIs(x, "thorn 03 09 a", NONE);
        Checks.faultIs(x, "thorn 4 1 a", 6);
        Checks.faultIs(x, "thorn 003 1 a", 6);
        Checks.faultIs(x, "thorn 0 0 a", 8);
        Checks.faultIs(x, "thorn 0 10 a", 8);
        Checks.faultIs(x, "thorn 0 1 abcdefghi", 10);
        Checks.faultIs(x, "thorn 0 1 7", 10);
        Checks.faultIs(x, "thorn 0 a", 8);
        Checks.faultIs(x, "dark 10", NONE);
        Checks.faultIs(x, "dark 99", NONE);
        Checks.faultIs(x, "dark 9", 5);
        Checks.faultIs(x, "dark 100", 5);
        Checks.faultIs(x, "word abcdefgh", NONE);
        Checks.faultIs(x, "word abcdefghi", 5);
        Checks.faultIs(x, "word thorn", NONE);
        String two = "thorn 0 1 a;hazel 0 1 b;";
        Checks.faultIs(x, two + "gate 0 1 1", NONE);
        Checks.faultIs(x, two + "gate 1 0 30", NONE);
        Checks.faultIs(x, two + "gate 0 1 0", 33);
        Checks.faultIs(x, two + "gate 0 1 31", 33);
        Checks.faultIs(x, two + "gate 2 0 1", 29);
        Checks.faultIs(x, two + "gate 0 2 1", 31);
        Checks.faultIs(x, two + "gate 1 1 1", 31);
        Checks.faultIs(x, two + "gate", 28);
        Checks.faultIs(x, two + "gate 0 ", 31);
        Checks.faultIs(x, two + "gate 0 1", 32);
        Checks.faultIs(x, two + "gate 0 1 5 6", 35);
        Checks.faultIs(x, "gate 0", 5);
        Checks.faultIs(x, "dark", 4);
        Checks.faultIs(x, "word", 4);
        Checks.faultIs(x, "word;", 4);
        Checks.faultIs(x, two + "gate 1 01 1", 31);
        Checks.faultIs(x, "thorn 0 1 a;gate 0 1 1;hazel 0 1 b", 19);
    }

    private static void faultInTokens() {
        HedgeReader x = new HedgeReader();
        Checks.faultIs(x, "", 0);
        Checks.faultIs(x, "   ", 3);
        Checks.faultIs(x, ";", 0);
        Checks.faultIs(x, "parish;", 7);
        Checks.faultIs(x, "parish ; ", 9);
        Checks.faultIs(x, "parish;;parish", 7);
        Checks.faultIs(x, "parish parish", 7);
        Checks.faultIs(x, "parish.", 6);
        Checks.faultIs(x, "  parish  ", NONE);
        Checks.faultIs(x, " parish ;  parish", NONE);
        Checks.faultIs(x, "parishes", 0);
        Checks.faultIs(x, "parisk", 0);
        Checks.faultIs(x, "karish", 0);
        Checks.faultIs(x, "Parish", 0);
        Checks.faultIs(x, "beech 0 1 a", 0);
        Checks.faultIs(x, "7", 0);
        Checks.faultIs(x, "thorn", 5);
        Checks.faultIs(x, "thorn 0", 7);
        Checks.faultIs(x, "thorn 0 1  ", 11);
        Checks.faultIs(x, "thorn0 1a;dark70", NONE);
        Checks.faultIs(x, "thorn 0 1 aB", 11);
        Checks.faultIs(x, "thorn 0\t1 a", 7);
        Checks.faultIs(x, "thorn 0 1 a b", 12);
        Checks.faultIs(x, "dark -70", 5);
        Checks.faultIs(x, "dark 70" + (char) 255, 7);
    }

    private static void faultInCounts() {
        HedgeReader x = Checks.told("thorn 0 1 a;thorn 0 1 a;thorn 0 1 a;thorn 0 1 a;thorn 0 1 a;thorn 0 1 a");
        Checks.faultIs(x, "hazel 0 1 b", NONE);
        Checks.faultIs(x, "hazel 0 1 b;  hazel 0 1 b", 14);
        Checks.faultIs(x, "hazel 0 1 b;parish;hazel 0 1 b", NONE);
        Checks.faultIs(x, "parish;gate 0 1 1", 12);
        Checks.tell(x, "gate 0 1 1;gate 0 1 1;gate 0 1 1;gate 0 1 1;gate 0 1 1;gate 0 1 1;gate 0 1 1;gate 0 1 1");
        Checks.faultIs(x, "gate 0 1 1", NONE);
        Checks.faultIs(x, "gate 0 1 1;gate 0 1 1", 11);
        Checks.tell(x, "word a;word a;word a;word a;word a;word a;word a");
        Checks.faultIs(x, "word a", NONE);
        Checks.faultIs(x, "word a;word a", 7);
        String eight = "word a;word a;word a;word a;word a;word a;word a;word a";
        Checks.faultIs(x, "word a;parish;" + eight, NONE);
        Checks.faultIs(x, "word a;parish;" + eight + ";word a", 70);
        String nine = "gate 0 1 1;gate 0 1 1;gate 0 1 1;gate 0 1 1;gate 0 1 1;gate 0 1 1;gate 0 1 1;gate 0 1 1;gate 0 1 1";
        Checks.faultIs(x, "parish;thorn 0 1 a;thorn 0 1 a;" + nine, NONE);
        Checks.faultIs(x, "parish;thorn 0 1 a;thorn 0 1 a;" + nine + ";gate 0 1 1", 130);
        String nineteen = "dark10;".repeat(19);
        Checks.faultIs(x, nineteen + "dark10", NONE);
        Checks.faultIs(x, nineteen + "dark10;", 139);
        Checks.faultIs(x, nineteen + "dark10;dark10", 139);
    }

    // Promise 5
    private static void parish() {
        HedgeReader x = new HedgeReader();
        due("parish of nothing", x.parish(), NOT);
        Checks.write(x, "dark 70;thorn");
        due("parish of a fault", x.parish(), NOT);
        due("its text stays", x.count(13), 13);
        due("nothing is done", x.count(3), 60);
        Checks.write(x, " 0 1 a");
        due("parish", x.parish(), 2);
        due("its text is empty", x.count(13), 0);
        due("dark", x.count(3), 70);
        due("fields", x.count(0), 1);
        Checks.tell(x, "thorn 0 1 ab");
        due("earlier texts stay", x.count(0), 2);
        due("dark stays", x.count(3), 70);
        Checks.tell(x, "gate 0 1 3;word a;parish;hazel 2 2 xyz");
        due("fields as at first", x.count(0), 1);
        due("gates as at first", x.count(1), 0);
        due("words as at first", x.count(2), 0);
        due("dark as at first", x.count(3), 60);
        due("behind parish", x.field(0, 0), 3);
        Checks.tell(x, "thorn 0 1 a;gate 0 1 5;dark 10;dark 20");
        due("clauses in their order", x.count(3), 20);
        Checks.tell(x, "parish");
        due("no fields", x.count(0), 0);
        due("one stands nowhere", x.count(6), NONE);
    }

    private static void parishBegins() {
        HedgeReader x = five();
        x.shelf(1, 2, 5);
        x.lay(1, 2, 3, 9);
        x.day();
        x.rain(6);
        x.read();
        x.through(0);
        x.seen(0, 1, 1);
        x.keep(0);
        x.keep(1);
        Checks.tell(x, "dark 61");
        due("day", x.count(4), 0);
        due("minute", x.count(5), 0);
        due("at", x.count(6), 0);
        due("read", x.count(7), 0);
        due("wet", x.count(8), 0);
        due("letters", x.count(9), 24);
        due("seen", x.count(10), 0);
        due("undone", x.count(12), 0);
        due("kept", x.back(0), NOT);
        due("kept", x.back(1), NOT);
        due("shelves are no matter of texts", x.look(1, 3), BASE + 9);
        Checks.tell(x, "parish;thorn 0 1 ab");
        due("shelves are no matter of texts", x.look(1, 3), BASE + 9);
        due("letters", x.count(9), 2);
    }

    // Promise 6
    private static void field() {
        HedgeReader x = five();
        int[][] want = {
            {0, 0, 2, 6, 6, 63, 13, 0}, {1, 0, 1, 4, 4, 15, 9, 0}, {2, 1, 1, 5, 5, 31, 22, 0},
            {3, 1, 3, 5, 5, 31, 5, 0}, {0, 2, 1, 4, 4, 15, 9, 0}};
        for (int f = 0; f < 5; f++) {
            for (int what = 0; what < 8; what++) {
                due("field(" + f + ", " + what + ")", x.field(f, what), want[f][what]);
            }
        }
        due("field unknown", x.field(5, 0), UNKNOWN);
        due("field unknown", x.field(-1, 8), UNKNOWN);
        due("field outside", x.field(0, 8), OUTSIDE);
        due("field outside", x.field(0, -1), OUTSIDE);
        x.read();
        x.rain(4);
        due("left", x.field(0, 4), 2);
        due("at which", x.field(0, 5), 3);
        due("minutes", x.field(0, 6), 5);
        due("read", x.field(0, 7), 1);
        due("line as it was", x.field(0, 3), 6);
        x.rain(9);
        due("thorn of nothing", x.field(0, 6), 1);
        due("hazel of nothing", x.field(3, 6), 0);
        due("bramble of nothing", x.field(2, 6), 2);
    }

    // Promise 7
    private static void letter() {
        HedgeReader x = five();
        due("letter r", x.letter(0, 0), 17);
        due("letter a", x.letter(0, 2), 0);
        due("letter y", x.letter(3, 4), 24);
        due("letter no place", x.letter(0, 6), UNKNOWN);
        due("letter no place", x.letter(0, -1), UNKNOWN);
        due("letter no field", x.letter(5, 0), UNKNOWN);
        due("letter no field", x.letter(-1, 0), UNKNOWN);
        x.rain(1);
        due("letter gone", x.letter(0, 5), NONE);
        due("letter left", x.letter(0, 4), 4);
        due("hazel gone", x.letter(3, 0), NONE);
    }

    // Promise 8
    private static void gate() {
        HedgeReader x = five();
        due("gate from", x.gate(4, 0), 3);
        due("gate to", x.gate(4, 1), 2);
        due("gate minutes", x.gate(4, 2), 3);
        due("gate outside", x.gate(0, 3), OUTSIDE);
        due("gate outside", x.gate(0, -1), OUTSIDE);
        due("gate unknown", x.gate(5, 0), UNKNOWN);
        due("gate unknown", x.gate(-1, 3), UNKNOWN);
    }

    // Promise 9
    private static void word() {
        HedgeReader x = five();
        due("word size", x.word(3, NONE), 4);
        due("word place", x.word(3, 0), 15);
        due("word place", x.word(3, 3), 12);
        due("word no place", x.word(3, 4), UNKNOWN);
        due("word no place", x.word(3, -2), UNKNOWN);
        due("word unknown", x.word(7, NONE), UNKNOWN);
        due("word unknown", x.word(-1, 0), UNKNOWN);
    }

    // Promise 10
    private static void as() {
        HedgeReader x = five();
        int[][] want = {{17, 17, NOT, NOT, NOT}, {17, 17, 17, NOT, NOT}, {34, 34, NOT, 34, NOT}, {8, NOT, NOT, NOT, 8}};
        x.rain(9);
        for (int f = 0; f < 4; f++) {
            for (int kind = 0; kind < 5; kind++) {
                due("as(" + f + ", " + kind + ")", x.as(f, kind), want[f][kind]);
            }
        }
        due("as outside", x.as(0, 5), OUTSIDE);
        due("as outside", x.as(0, -1), OUTSIDE);
        due("as unknown", x.as(5, 5), UNKNOWN);
        due("as unknown", x.as(-1, 0), UNKNOWN);
    }

    // Promise 11
    private static void through() {
        HedgeReader x = five();
        due("through unknown", x.through(5), UNKNOWN);
        due("through unknown", x.through(-1), UNKNOWN);
        due("through elsewhere", x.through(1), NOT);
        due("through", x.through(0), 1);
        due("through back", x.through(0), 0);
        due("minutes", x.count(5), 8);
        due("through", x.through(2), 2);
        due("through", x.through(2), 0);
        due("through", x.through(2), 2);
        due("minutes", x.count(5), 53);
        due("through told the other way", x.through(4), 3);
        due("through", x.through(4), 2);
        due("minutes", x.count(5), 59);
        due("too late", x.through(4), NOT);
        due("at", x.count(6), 2);
        HedgeReader y = Checks.told("thorn 0 1 a;thorn 0 1 a;gate 0 1 5;dark 10");
        y.through(0);
        due("just at dark", y.through(0), 0);
        due("later than dark", y.through(0), NOT);
        due("minute stays", y.count(5), 10);
        due("place stays", y.count(6), 0);
        due("refused can't be undone", y.count(12), 2);
    }

    // Promise 12
    private static void read() {
        due("read no fields", new HedgeReader().read(), NOT);
        HedgeReader x = five();
        due("read", x.read(), 6);
        due("minutes", x.count(5), 13);
        due("bits", x.count(7), 1);
        due("read again", x.read(), NOT);
        due("minutes stay", x.count(5), 13);
        HedgeReader y = Checks.told("bramble 0 1 ab;dark 10");
        due("just at dark", y.read(), 2);
        HedgeReader z = Checks.told("bramble 0 1 abc;dark 13");
        due("later than dark", z.read(), NOT);
        due("not read", z.count(7), 0);
        z.plough(0);
        due("read of nothing", z.read(), 0);
        due("takes minutes", z.count(5), 2);
    }

    private static void readHollyWet() {
        HedgeReader x = Checks.told("holly 0 1 abc");
        x.rain(5);
        due("holly wet by 5", x.read(), NOT);
        due("minutes are told all the same", x.field(0, 6), 7);
        x.rain(4);
        due("holly wet by 4", x.read(), 3);
        x.day();
        x.rain(9);
        due("holly wet by 9", x.read(), NOT);
        x.day();
        due("holly dry", x.read(), 3);
    }

    // Promise 13
    private static void rain() {
        HedgeReader x = five();
        due("rain outside", x.rain(0), OUTSIDE);
        due("rain outside", x.rain(10), OUTSIDE);
        due("rain by 3", x.rain(3), 3 + 0 + 0 + 3 + 3);
        due("thorn", x.field(0, 5), 7);
        due("holly", x.field(1, 5), 15);
        due("bramble", x.field(2, 5), 31);
        due("hazel", x.field(3, 5), 24);
        due("wet", x.count(8), 3);
        due("rain by 5", x.rain(5), 3 + 0 + 2 + 2 + 1);
        due("bramble", x.field(2, 5), 7);
        due("wet", x.count(8), 5);
        due("rain by 1", x.rain(1), 0);
        due("wet by the latest", x.count(8), 1);
        HedgeReader y = Checks.told("thorn 0 1 eaeae;hazel 0 1 aabab;bramble 0 1 abcdefgh");
        y.birds();
        due("thorn behind birds", y.field(0, 5), 10);
        due("hazel behind birds", y.field(1, 5), 20);
        due("rain counts those left", y.rain(1), 2);
        due("thorn's last left", y.field(0, 5), 2);
        due("hazel's first left", y.field(1, 5), 16);
        due("rain by 9", y.rain(9), 1 + 1 + 6);
        due("bramble", y.field(2, 5), 3);
        due("rain on no fields", new HedgeReader().rain(9), 0);
    }

    // Promise 14
    private static void birds() {
        HedgeReader x = Checks.told("thorn 0 1 aeioux;holly 0 1 aeioux;bramble 0 1 aeioux;hazel 0 1 aeioux");
        due("birds", x.birds(), 2 + 2 + 0 + 5);
        due("thorn", x.field(0, 5), 63 - 2 - 8);
        due("holly", x.field(1, 5), 63 - 2 - 8);
        due("bramble", x.field(2, 5), 63);
        due("hazel", x.field(3, 5), 32);
        due("birds again", x.birds(), 0);
        due("both can be undone", x.count(12), 2);
        due("no fields", new HedgeReader().birds(), 0);
    }

    // Promise 15
    private static void plough() {
        HedgeReader x = five();
        due("plough", x.plough(3), 5);
        due("ploughed", x.field(3, 5), 0);
        due("plough again", x.plough(3), NOT);
        x.rain(2);
        due("plough", x.plough(0), 4);
        due("plough unknown", x.plough(5), UNKNOWN);
        due("plough unknown", x.plough(-1), UNKNOWN);
        due("others stay", x.count(9), 4 + 5 + 2);
    }

    // Promise 16
    private static void day() {
        HedgeReader x = five();
        x.read();
        x.through(0);
        x.read();
        x.rain(6);
        int left = x.count(9);
        due("day", x.day(), 2);
        due("the day", x.count(4), 1);
        due("minute", x.count(5), 0);
        due("at", x.count(6), 1);
        due("read", x.count(7), 0);
        due("wet", x.count(8), 0);
        due("letters stay gone", x.count(9), left);
        due("day", x.day(), 0);
        due("the day", x.count(4), 2);
        due("read anew", x.read(), 4);
        HedgeReader y = new HedgeReader();
        for (int i = 0; i < 999; i++) {
            y.day();
        }
        due("the last day", y.count(4), 999);
        due("full", y.day(), FULL);
        due("the last day stays", y.count(4), 999);
    }

    // Promise 17
    private static void undo() {
        HedgeReader x = five();
        due("undo nothing", x.undo(), NOT);
        for (int i = 1; i <= 11; i++) {
            x.rain(i % 4 + 1);
            due("can be undone", x.count(12), Math.min(i, 8));
        }
        for (int i = 10; i >= 3; i--) {
            due("undo", x.undo(), i - 3);
            due("wet as it was", x.count(8), i % 4 + 1);
        }
        due("undo no more", x.undo(), NOT);
        due("wet stays", x.count(8), 4);
        x.day();
        due("one can be undone", x.undo(), 0);
        due("wet as it was", x.count(8), 4);
    }

    private static void undoEach() {
        HedgeReader x = five();
        String first = stateOf(x);
        x.through(0);
        String second = stateOf(x);
        x.read();
        String third = stateOf(x);
        x.rain(7);
        String fourth = stateOf(x);
        x.birds();
        String fifth = stateOf(x);
        x.plough(2);
        String sixth = stateOf(x);
        x.day();
        x.seen(0, 1, 2);
        x.keep(0);
        x.shelf(0, 0, 4);
        x.write('a');
        String[] states = {sixth, fifth, fourth, third, second, first};
        for (int i = 0; i < 6; i++) {
            due("undo", x.undo(), 5 - i);
            Checks.isTrue("state behind undo " + i, stateOf(x).equals(states[i]));
        }
        due("seen stays", x.count(10), 1);
        due("shelves stay", x.count(11), 1);
        due("text stays", x.count(13), 1);
        due("kept stays", x.back(0), 1);
    }

    private static String stateOf(HedgeReader x) {
        StringBuilder all = new StringBuilder();
        for (int what = 4; what <= 9; what++) {
            all.append(x.count(what)).append(' ');
        }
        for (int f = 0; f < x.count(0); f++) {
            all.append(x.field(f, 5)).append(',').append(x.field(f, 7)).append(' ');
        }
        return all.toString();
    }

    // Promises 18, 19
    private static void keepAndBack() {
        HedgeReader x = five();
        due("keep unknown", x.keep(2), UNKNOWN);
        due("keep unknown", x.keep(-1), UNKNOWN);
        due("back unknown", x.back(2), UNKNOWN);
        due("back unknown", x.back(-1), UNKNOWN);
        due("back nothing", x.back(0), NOT);
        x.day();
        x.rain(2);
        x.read();
        x.through(0);
        String first = stateOf(x);
        due("keep", x.keep(1), 1);
        due("can be undone yet", x.count(12), 4);
        due("back of the other", x.back(0), NOT);
        x.day();
        x.birds();
        x.seen(0, 1, 1);
        x.shelf(2, 1, 3);
        String second = stateOf(x);
        due("keep", x.keep(0), 2);
        due("back", x.back(1), 1);
        Checks.isTrue("as it was", stateOf(x).equals(first));
        due("nothing can be undone", x.undo(), NOT);
        due("seen stays", x.count(10), 1);
        due("shelves stay", x.count(11), 1);
        due("back", x.back(0), 2);
        Checks.isTrue("as it was", stateOf(x).equals(second));
        due("back again", x.back(1), 1);
        x.plough(0);
        due("back again", x.back(1), 1);
        Checks.isTrue("as it was", stateOf(x).equals(first));
        x.day();
        due("keep anew", x.keep(1), 2);
        x.day();
        due("back", x.back(1), 2);
    }

    // Promise 20
    private static void far() {
        HedgeReader x = five();
        int[][] want = {{0, 4, 10, 13, NONE}, {4, 0, 6, 9, NONE}, {10, 6, 0, 3, NONE}, {13, 9, 3, 0, NONE},
            {NONE, NONE, NONE, NONE, 0}};
        for (int a = 0; a < 5; a++) {
            for (int b = 0; b < 5; b++) {
                due("far(" + a + ", " + b + ")", x.far(a, b), want[a][b]);
            }
        }
        due("far unknown", x.far(0, 5), UNKNOWN);
        due("far unknown", x.far(5, 0), UNKNOWN);
        due("far unknown", x.far(-1, 0), UNKNOWN);
        due("far unknown", x.far(0, -1), UNKNOWN);
        HedgeReader y = Checks.told(
            "thorn 0 1 a;thorn 0 1 a;thorn 0 1 a;thorn 0 1 a;thorn 0 1 a;thorn 0 1 a;thorn 0 1 a;gate 6 5 30;gate 5 4 30",
            "gate 4 3 30;gate 3 2 30;gate 2 1 30;gate 1 0 30");
        due("later than any dark", y.far(0, 6), 180);
    }

    // Promise 21
    private static void whole() {
        HedgeReader x = five();
        due("by chapters", x.whole(0), 4 + 9 + 4 + 13);
        due("by chapters", x.whole(1), 10 + 22 + 3 + 5);
        due("not to be come to", x.whole(2), NONE);
        due("no such field", x.whole(3), NONE);
        due("unknown", x.whole(4), UNKNOWN);
        due("unknown", x.whole(-1), UNKNOWN);
        x.read();
        due("read already", x.whole(0), 30);
        x.rain(2);
        due("as letters are left", x.whole(0), 4 + 9 + 4 + 9);
        x.rain(5);
        due("cannot be read", x.whole(0), NONE);
        due("no holly in it", x.whole(1), 10 + 2 * (2 * 3 + 1) + 3 + 0);
        HedgeReader y = Checks.told("hazel 0 2 a;hazel 0 1 ab;hazel 0 2 abc;hazel 0 1 abcd;gate 0 1 1;gate 0 2 2;gate 2 3 4");
        due("the last chapter", Checks.told("hazel 0 9 abc").whole(0), 3);
        due("like chapters by numbers", y.whole(0), 1 + 2 + 7 + 4 + 6 + 1 + 2 + 3);
    }

    // Promise 22
    private static void before() {
        HedgeReader x = five();
        due("before dark", x.before(0), 1);
        due("before dark", x.before(1), 1);
        due("none", x.before(2), 0);
        due("none", x.before(3), 0);
        due("unknown", x.before(4), UNKNOWN);
        due("unknown", x.before(-1), UNKNOWN);
        x.through(2);
        x.through(2);
        x.through(2);
        due("whole in itself", x.whole(0), 6 + 9 + 4 + 13);
        due("later than dark", x.before(0), 0);
        Checks.tell(x, "dark 30");
        due("just at dark", x.before(0), 1);
        x.through(0);
        due("from where one stands", x.before(0), 1);
        x.through(0);
        due("a minute matters", x.before(0), 0);
        Checks.tell(x, "dark 29");
        due("later than dark", x.before(0), 0);
    }

    // Promise 23
    private static void feast() {
        HedgeReader x = five();
        due("outside", x.feast(-3), OUTSIDE);
        due("outside", x.feast(7), OUTSIDE);
        // 0, 2, 3: 13 + 10 + 22 + 3 + 5 = 53 MINUTES; with 1 it is 13 + 4 + 9 + 6 + 22 + 3 + 5 = 62.
        due("letters", x.feast(NONE), 16);
        due("fields", x.feast(-2), 3);
        due("first", x.feast(0), 0);
        due("second", x.feast(1), 2);
        due("third", x.feast(2), 3);
        due("not so long", x.feast(3), NONE);
        due("not so long", x.feast(6), NONE);
        Checks.tell(x, "dark 62");
        due("letters", x.feast(NONE), 20);
        due("fields", x.feast(-2), 4);
        due("the only row in time", x.feast(2) * 10 + x.feast(3), 23);
        Checks.tell(x, "dark 61");
        due("not in time", x.feast(NONE), 16);
        x.read();
        due("not what is read", x.feast(0), 2);
        due("letters", x.feast(NONE), 10);
        x.rain(5);
        due("holly cannot be read", x.feast(-2), 1);
        due("bramble and hazel have lost letters", x.feast(NONE), 3);
        due("one field", x.feast(0), 2);
    }

    private static void feastTies() {
        HedgeReader x = Checks.told("hazel 0 1 ab;hazel 0 1 ab;hazel 0 1 abcd;gate 0 1 1;gate 0 2 1;gate 1 2 1;dark 10");
        x.plough(0);
        due("none of no letters", x.feast(-2), 2);
        due("first of like rows", x.feast(0), 1);
        Checks.tell(x, "parish;hazel 0 1 a;hazel 0 1 ab;hazel 0 1 ab;hazel 0 1 abcd;gate 0 1 3;gate 1 2 1;gate 0 3 6;dark 10");
        due("most letters", x.feast(NONE), 5);
        due("though of more fields", x.feast(-2), 3);
        Checks.tell(x, "dark 11");
        due("as many letters", x.feast(NONE), 5);
        due("by fewer fields", x.feast(-2), 2);
        due("though later", x.feast(0) * 10 + x.feast(1), 3);
        Checks.tell(x, "parish;bramble 0 1 a;hazel 0 1 ab;hazel 0 1 ab;hazel 0 1 abcd;gate 0 1 3;gate 1 2 1;gate 0 3 6;dark 10");
        due("most letters", x.feast(NONE), 4);
        due("the shorter row", x.feast(-2), 1);
        due("its field", x.feast(0), 3);
        Checks.tell(x, "parish;hazel 0 1 a;hazel 0 1 a;hazel 0 1 a;gate 0 1 9;gate 0 2 9");
        x.day();
        due("any order in time: the first", x.feast(0) * 100 + x.feast(1) * 10 + x.feast(2), 12);
    }

    // Promise 24
    private static void least() {
        HedgeReader x = five();
        due("one gate", x.least(0), 1);
        due("two gates, the least of as few", x.least(1), 0b01100);
        due("not to be come to", x.least(2), NONE);
        due("no such field", x.least(3), NONE);
        due("unknown", x.least(4), UNKNOWN);
        due("unknown", x.least(-1), UNKNOWN);
        x.through(0);
        due("from where one stands", x.least(1), 0b01010);
        due("from where one stands", x.least(0), 1);
        HedgeReader y = Checks.told("thorn 0 1 a;thorn 1 1 b;thorn 1 1 c;gate 0 1 1;gate 1 2 1;gate 0 2 30");
        due("no gate", y.least(0), 0);
        due("two gates", y.least(1), 3);
        Checks.tell(y, "thorn 2 1 d;gate 1 3 1;gate 2 3 1");
        due("minutes are aside", y.least(2), 0b01001);
    }

    // Promise 25
    private static void could() {
        HedgeReader x = five();
        due("all left", x.could(2, 0), 0b0000010);
        due("all left", x.could(2, 1), 0b0000010);
        due("unknown", x.could(5, 0), UNKNOWN);
        due("unknown", x.could(-1, 2), UNKNOWN);
        due("outside", x.could(0, 2), OUTSIDE);
        due("outside", x.could(0, -1), OUTSIDE);
        due("no such word", x.could(4, 0), 0);
        x.birds();
        due("p..m", x.could(1, 0), 0b0001000);
        due("p..m by birds", x.could(1, 1), 0b0001000);
        x.rain(4);
        due("dogm.", x.could(2, 0), 0b0000110);
        due("a bramble's are not taken by birds", x.could(2, 1), 0);
        x.plough(1);
        due("any of four", x.could(1, 0), 0b0111000);
        due("none all of e and o", x.could(1, 1), 0);
        HedgeReader y = Checks.told("hazel 0 1 rib;word rib;word rab;word rxb;word ribs;thorn 0 1 rob;word rob;word reb;word ab");
        y.birds();
        due("hazel any", y.could(0, 0), 0b110111);
        due("hazel vowels", y.could(0, 1), 0b110011);
        due("thorn e, o", y.could(1, 1), 0b110000);
        due("thorn any", y.could(1, 0), 0b110111);
    }

    // Promise 26
    private static void which() {
        HedgeReader x = five();
        due("unknown", x.which(5, 0), UNKNOWN);
        due("unknown", x.which(-1, 2), UNKNOWN);
        due("outside", x.which(0, 2), OUTSIDE);
        due("outside", x.which(0, -1), OUTSIDE);
        due("no such place", x.which(0, 0), NONE);
        due("no such word", x.which(4, 0), NONE);
        x.plough(1);
        // poem, pour, roem: at 0 p p r, at 1 o o o, at 2 e u e, at 3 m r m.
        due("the least of several", x.which(1, 0), 0);
        due("no such word", x.which(1, 1), NONE);
        HedgeReader y = Checks.told("hazel 0 1 aeb;word aab;word aeb;word iib;word oob;word xyb");
        y.birds();
        due("any: 0 has a a, 1 has all unlike", y.which(0, 0), 1);
        due("vowels likewise", y.which(0, 1), 1);
        HedgeReader z = Checks.told("thorn 0 1 abc;word abc");
        z.rain(2);
        due("one word: the first place that is gone", z.which(0, 0), 1);
    }

    // Promise 27
    private static void seen() {
        HedgeReader x = five();
        due("unknown", x.seen(5, 9, 61), UNKNOWN);
        due("unknown", x.seen(-1, 0, 0), UNKNOWN);
        due("outside", x.seen(0, 9, 0), OUTSIDE);
        due("outside", x.seen(0, -1, 0), OUTSIDE);
        due("outside", x.seen(0, 0, 61), OUTSIDE);
        due("outside", x.seen(0, 0, -1), OUTSIDE);
        for (int i = 1; i <= 6; i++) {
            due("seen", x.seen(4, 8, 60), i);
        }
        due("full", x.seen(0, 0, 0), FULL);
        due("outside ahead of full", x.seen(0, 0, 61), OUTSIDE);
        due("count(10)", x.count(10), 6);
        x.day();
        x.undo();
        due("not undone", x.count(10), 6);
    }

    // Promise 28
    private static void forget() {
        HedgeReader x = five();
        due("forget nothing", x.forget(), 0);
        x.seen(0, 0, 0);
        x.seen(0, 0, 0);
        due("forget", x.forget(), 2);
        due("forgotten", x.count(10), 0);
        due("kinds", x.kinds(0), 15);
        due("seen anew", x.seen(0, 0, 0), 1);
    }

    // Promise 29
    private static void kinds() {
        HedgeReader x = five();
        due("unknown", x.kinds(5), UNKNOWN);
        due("unknown", x.kinds(-1), UNKNOWN);
        due("nothing seen", x.kinds(0), 15);
        x.seen(0, 3, 7);
        due("thorn, holly", x.kinds(0), 3);
        due("of this field alone", x.kinds(1), 15);
        x.seen(1, 3, 14);
        due("bramble", x.kinds(1), 4);
        x.seen(2, 3, 3);
        due("hazel", x.kinds(2), 8);
        x.seen(2, 0, 0);
        due("hazel", x.kinds(2), 8);
        x.seen(0, 2, 10);
        due("none", x.kinds(0), 0);
    }

    // Promise 30
    private static void odds() {
        HedgeReader x = five();
        due("unknown", x.odds(5, 9, 11, 2), UNKNOWN);
        due("unknown", x.odds(-1, 0, 0, 0), UNKNOWN);
        due("outside", x.odds(0, 9, 0, 0), OUTSIDE);
        due("outside", x.odds(0, -1, 0, 0), OUTSIDE);
        due("outside", x.odds(0, 0, 11, 0), OUTSIDE);
        due("outside", x.odds(0, 0, -1, 0), OUTSIDE);
        due("outside", x.odds(0, 0, 0, 2), OUTSIDE);
        due("outside", x.odds(0, 0, 0, -1), OUTSIDE);
        // eoeo: all four are endangered.
        oddsAre(x, 4, 0, 10, 1, 1);
        oddsAre(x, 4, 1, 10, 0, 1);
        oddsAre(x, 4, 4, 0, 1, 1);
        oddsAre(x, 4, 5, 0, 0, 1);
        oddsAre(x, 4, 4, 5, 1, 16);
        oddsAre(x, 4, 3, 5, 5, 16);
        oddsAre(x, 4, 1, 1, 9999, 10000);
        oddsAre(x, 4, 4, 3, 2401, 10000);
        // reader: two are endangered.
        oddsAre(x, 0, 5, 2, 24, 25);
        oddsAre(x, 0, 4, 10, 1, 1);
        oddsAre(x, 0, 7, 3, 0, 1);
        oddsAre(x, 2, 5, 10, 1, 1);
        oddsAre(x, 2, 6, 10, 0, 1);
        x.rain(3);
        oddsAre(x, 0, 3, 5, 1, 2);
        oddsAre(x, 4, 1, 3, 7, 10);
        HedgeReader y = Checks.told("hazel 0 1 aeiouaei");
        oddsAre(y, 0, 8, 7, 6561, 100000000);
        oddsAre(y, 0, 8, 9, 1, 100000000);
    }

    private static void oddsAre(HedgeReader x, int field, int m, int q, int above, int below) {
        String what = "odds(" + field + ", " + m + ", " + q + ")";
        due(what, x.odds(field, m, q, 0), above);
        due(what, x.odds(field, m, q, 1), below);
    }

    // Promise 31
    private static void shelf() {
        HedgeReader x = new HedgeReader();
        due("unknown", x.shelf(4, 3, 25), UNKNOWN);
        due("unknown", x.shelf(-1, 0, 0), UNKNOWN);
        due("outside", x.shelf(0, 3, -1), OUTSIDE);
        due("outside", x.shelf(0, -1, 0), OUTSIDE);
        due("outside", x.shelf(0, 0, 25), OUTSIDE);
        due("size", x.shelf(0, 0, -1), SIZE);
        due("size", x.shelf(0, 2, Integer.MIN_VALUE), SIZE);
        due("still missing", x.count(11), 0);
        due("none", x.shelf(0, 0, 0), 0);
        due("it is there", x.count(11), 1);
        due("no place", x.look(0, 0), INDEX);
        due("24", x.shelf(0, 2, 24), 24);
        due("number 0", x.look(0, 23), BASE);
        x.lay(0, 2, 23, 5);
        x.lay(0, 2, 0, 5);
        due("anew", x.shelf(0, 2, 24), 24);
        due("number 0", x.look(0, 23), BASE);
        due("number 0", x.look(0, 0), BASE);
        x.lay(0, 2, 3, 5);
        due("refused", x.shelf(0, 2, 25), OUTSIDE);
        due("stays", x.look(0, 3), BASE + 5);
    }

    // Promise 32
    private static void lay() {
        HedgeReader x = new HedgeReader();
        due("unknown", x.lay(4, 3, 0, 0), UNKNOWN);
        due("outside ahead of null", x.lay(0, 3, 0, 0), OUTSIDE);
        due("null", x.lay(0, 0, -1, 0), NULL);
        x.shelf(0, 0, 3);
        x.shelf(1, 1, 3);
        x.shelf(2, 2, 3);
        due("cast ahead of index", x.lay(0, 1, 3, 0), CAST);
        due("cast", x.lay(2, 0, 0, 0), CAST);
        due("index", x.lay(0, 0, 3, 0), INDEX);
        due("index", x.lay(0, 0, -1, 0), INDEX);
        int[] put = {127, 128, 255, 256, -129, 32767, 32768, 65536, -32769, Integer.MAX_VALUE, Integer.MIN_VALUE};
        for (int v : put) {
            due("lay", x.lay(0, 0, 1, v), 1);
            due("byte " + v, x.look(0, 1), BASE + (byte) v);
            due("lay", x.lay(1, 1, 1, v), 1);
            due("short " + v, x.look(1, 1), BASE + (short) v);
            due("lay", x.lay(2, 2, 1, v), 1);
            due("int " + v, x.look(2, 1), BASE + v);
        }
        due("others stay", x.look(0, 0), BASE);
        due("others stay", x.look(0, 2), BASE);
    }

    // Promise 33
    private static void look() {
        HedgeReader x = new HedgeReader();
        due("unknown", x.look(4, 0), UNKNOWN);
        due("unknown", x.look(-1, 0), UNKNOWN);
        due("null", x.look(3, -1), NULL);
        x.shelf(3, 2, 2);
        due("index", x.look(3, 2), INDEX);
        due("index", x.look(3, -1), INDEX);
        due("index", x.look(3, Integer.MAX_VALUE), INDEX);
        x.lay(3, 2, 1, -7);
        due("look", x.look(3, 1), BASE - 7);
    }

    // Promise 34
    private static void copy() {
        HedgeReader x = new HedgeReader();
        x.shelf(0, 0, 5);
        x.shelf(1, 0, 3);
        x.shelf(2, 1, 3);
        for (int i = 0; i < 5; i++) {
            x.lay(0, 0, i, i + 1);
        }
        due("unknown", x.copy(4, 0, 3, 0, 1), UNKNOWN);
        due("unknown", x.copy(3, 0, -1, 0, 1), UNKNOWN);
        due("null", x.copy(3, -1, 0, 0, 1), NULL);
        due("null", x.copy(0, -1, 3, 0, 1), NULL);
        due("store ahead of index", x.copy(0, -1, 2, 0, 1), STORE);
        due("store", x.copy(2, 0, 0, 0, 0), STORE);
        int[][] wrong = {{-1, 0, 1}, {0, -1, 1}, {0, 0, -1}, {3, 0, 3}, {0, 1, 3}, {6, 0, 0}, {0, 4, 0},
            {0, 0, 4}, {1, 0, Integer.MAX_VALUE}, {Integer.MAX_VALUE, 0, 1}, {0, Integer.MAX_VALUE, Integer.MAX_VALUE}};
        for (int[] w : wrong) {
            due("index " + w[0] + " " + w[1] + " " + w[2], x.copy(0, w[0], 1, w[1], w[2]), INDEX);
        }
        due("none at the ends", x.copy(0, 5, 1, 3, 0), 0);
        due("copy", x.copy(0, 2, 1, 0, 3), 3);
        numbersAre(x, 1, 3, 4, 5);
        due("overlap up", x.copy(0, 0, 0, 1, 4), 4);
        numbersAre(x, 0, 1, 1, 2, 3, 4);
        due("overlap down", x.copy(0, 2, 0, 1, 3), 3);
        numbersAre(x, 0, 1, 2, 3, 4, 4);
        numbersAre(x, 1, 3, 4, 5);
    }

    private static void numbersAre(HedgeReader x, int shelf, int... want) {
        for (int i = 0; i < want.length; i++) {
            due("shelf " + shelf + " at " + i, x.look(shelf, i), BASE + want[i]);
        }
        due("its end", x.look(shelf, want.length), INDEX);
    }

    // Promise 35
    private static void drop() {
        HedgeReader x = new HedgeReader();
        due("unknown", x.drop(4), UNKNOWN);
        due("unknown", x.drop(-1), UNKNOWN);
        due("null", x.drop(0), NULL);
        x.shelf(0, 1, 7);
        x.shelf(1, 1, 0);
        due("drop", x.drop(0), 7);
        due("dropped", x.drop(0), NULL);
        due("drop of none", x.drop(1), 0);
        due("count(11)", x.count(11), 0);
    }

    // Promise 36
    private static void list() {
        HedgeReader x = five();
        due("unknown", x.list(4, 3, 0), UNKNOWN);
        due("outside", x.list(0, 3, 0), OUTSIDE);
        due("null", x.list(0, 0, -1), NULL);
        x.shelf(0, 0, 5);
        due("cast", x.list(0, 1, -1), CAST);
        due("index", x.list(0, 0, -1), INDEX);
        due("index", x.list(0, 0, 3), INDEX);
        due("index", x.list(0, 0, Integer.MAX_VALUE), INDEX);
        numbersAre(x, 0, 0, 0, 0, 0, 0);
        due("list", x.list(0, 0, 2), 3);
        numbersAre(x, 0, 0, 0, 0, 2, 3);
        x.shelf(0, 2, 4);
        x.lay(0, 2, 3, 99);
        due("list", x.list(0, 2, 0), 3);
        numbersAre(x, 0, 0, 2, 3, 99);
        HedgeReader y = new HedgeReader();
        y.shelf(0, 0, 3);
        due("none at the end", y.list(0, 0, 3), 0);
        due("none beyond the end", y.list(0, 0, 4), INDEX);
        due("none below 0", y.list(0, 0, -1), INDEX);
    }

    // Promise 37
    private static void count() {
        HedgeReader x = five();
        due("outside", x.count(-1), OUTSIDE);
        due("outside", x.count(14), OUTSIDE);
        x.day();
        x.rain(2);
        x.through(0);
        x.read();
        x.seen(0, 1, 1);
        x.shelf(2, 0, 1);
        x.write('a');
        x.write('b');
        x.write('c');
        int[] want = {5, 5, 7, 60, 1, 13, 1, 2, 2, 24 - 2 - 2 - 2, 1, 1, 4, 3};
        for (int what = 0; what <= 13; what++) {
            due("count(" + what + ")", x.count(what), want[what]);
        }
    }
}
