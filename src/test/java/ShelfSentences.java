/** Section 4 of the document, the order of refusals, and promises 31 to 37: shelves, and counts. */
final class ShelfSentences extends Sentences {
    private ShelfSentences() {
    }

    static void all() {
        use();
        section4();
        refusals();
        p31ToP33();
        p34ToP35();
        p36ToP37();
    }

    private static void section4() {
        shelvesAreMissingAtFirst();
        lanesAreBytesShortsInts();
        shelvesHaveUpTo24Numbers();
        nullIsAMissingShelf();
        castIsAnotherLane();
        indexIsNoPlace();
        sizeIsFewerThanNone();
        storeIsOfUnlikeLanes();
        theFirstInThisOrderButAsTold();
    }

    private static void refusals() {
        refusedChangesNothing();
        unknownIsNoSuch();
        outsideIsAnotherNumber();
        notNow();
        fullIsFull();
        thenWhatTheMachineFinds();
        theFirstThatFits();
        partsInLowestTerms();
    }

    private static void p31ToP33() {
        p31Shelf();
        p31ShelfUnknown();
        p31ShelfOutside();
        p31ShelfSize();
        p32Lay();
        p32LayUnknown();
        p32LayOutside();
        p32LayNull();
        p32LayCast();
        p32LayIndex();
        p33Look();
        p33LookUnknown();
        p33LookNull();
        p33LookIndex();
    }

    private static void p34ToP35() {
        p34Copy();
        p34CopyAsIfAllWereTakenAhead();
        p34CopyUnknown();
        p34CopyNull();
        p34CopyStore();
        p34CopyIndex();
        p34CopyStoreAheadOfIndex();
        p35Drop();
        p35DropUnknown();
        p35DropNull();
    }

    private static void p36ToP37() {
        p36List();
        p36ListUnknown();
        p36ListOutside();
        p36ListNull();
        p36ListCast();
        p36ListIndex();
        p36ListIndexIfThereAreNone();
        p37Count();
        p37CountEachLeastAndMost();
        p37CountOutside();
    }

    private static void use() {
        sentence("use", "An object is used for at most 512 calls after it has been made; what later calls answer is free.");
        HedgeReader x = told("hazel 0 1 abcdefgh;hazel 0 2 abcdefgh;hazel 0 3 abcdefgh;hazel 0 4 abcdefgh;hazel 0 5 abcdefgh;"
            + "hazel 0 6 abcdefgh;hazel 0 7 abcdefgh", "gate 0 1 1;gate 1 2 1;gate 2 3 1;gate 3 4 1;gate 4 5 1;gate 5 6 1;dark 99");
        x.shelf(0, 0, 7);
        for (int call = x.count(13); call < 100; call++) {
            due("list", x.list(0, 0, 0), 7);
            due("feast", x.feast(NONE), 56);
            due("least", x.least(0), 63);
        }
    }

    // ---- section 4

    private static void shelvesAreMissingAtFirst() {
        sentence("4", "SHELVES 0 .. 3 are missing (at first),");
        HedgeReader x = new HedgeReader();
        for (int s = 0; s < 4; s++) {
            due("missing", x.look(s, 0), NULL);
            due("there are", x.count(11), s);
            x.shelf(s, 0, 1);
            due("there", x.look(s, 0), BASE);
        }
        due("no fifth", x.shelf(4, 0, 1), UNKNOWN);
        due("none below", x.shelf(-1, 0, 1), UNKNOWN);
        due("there are", x.count(11), 4);
    }

    private static void lanesAreBytesShortsInts() {
        sentence("4", "or rows of a LANE (0 bytes, 1 shorts, 2 ints)");
        HedgeReader x = new HedgeReader();
        long[] want = {BASE + (byte) 1234567890, BASE + (short) 1234567890, BASE + 1234567890};
        for (int lane = 0; lane < 3; lane++) {
            due("shelf", x.shelf(lane, lane, 1), 1);
            due("lay", x.lay(lane, lane, 0, 1234567890), 1);
            due("look", x.look(lane, 0), want[lane]);
        }
        refused(x, "lane 3", () -> x.shelf(0, 3, 1), OUTSIDE);
        refused(x, "lane -1", () -> x.shelf(0, -1, 1), OUTSIDE);
    }

    private static void shelvesHaveUpTo24Numbers() {
        sentence("4", "of 0 to 24 numbers.");
        HedgeReader x = new HedgeReader();
        for (int n = 0; n <= 24; n++) {
            due("shelf of " + n, x.shelf(1, n % 3, n), n);
            due("its last", x.look(1, n - 1), n == 0 ? INDEX : BASE);
            due("its end", x.look(1, n), INDEX);
        }
        refused(x, "25", () -> x.shelf(1, 0, 25), OUTSIDE);
        refused(x, "-1", () -> x.shelf(1, 0, -1), SIZE);
    }

    private static void nullIsAMissingShelf() {
        sentence("4", "What the machine finds is answered as NULL -11 (the SHELF is missing),");
        HedgeReader x = new HedgeReader();
        refused(x, "lay", () -> x.lay(0, 0, 0, 1), -11);
        refused(x, "look", () -> x.look(1, 0), -11);
        refused(x, "copy", () -> x.copy(2, 0, 2, 0, 0), -11);
        refused(x, "drop", () -> x.drop(3), -11);
        refused(x, "list", () -> x.list(0, 0, 0), -11);
        x.shelf(0, 0, 0);
        due("a shelf of none is not missing", x.look(0, 0), -13);
        x.drop(0);
        refused(x, "look at a dropped one", () -> x.look(0, 0), -11);
    }

    private static void castIsAnotherLane() {
        sentence("4", "CAST -12 (it is of another LANE than told),");
        HedgeReader x = new HedgeReader();
        for (int lane = 0; lane < 3; lane++) {
            x.shelf(0, lane, 1);
            for (int told = 0; told < 3; told++) {
                int as = told;
                due("lay", x.lay(0, as, 0, 1), as == lane ? 1 : -12);
                due("list", x.list(0, as, 0), as == lane ? 0 : -12);
            }
        }
    }

    private static void indexIsNoPlace() {
        sentence("4", "INDEX -13 (a place that there is not),");
        HedgeReader x = lively();
        for (int i : off(0, 3)) {
            refused(x, "look(0, " + i + ")", () -> x.look(0, i), -13);
            refused(x, "lay(0, 0, " + i + ", 1)", () -> x.lay(0, 0, i, 1), -13);
        }
    }

    private static void sizeIsFewerThanNone() {
        sentence("4", "SIZE -14 (fewer than none),");
        HedgeReader x = lively();
        refused(x, "shelf(0, 0, -1)", () -> x.shelf(0, 0, -1), -14);
        refused(x, "shelf(3, 2, least int)", () -> x.shelf(3, 2, LEAST_INT), -14);
        due("none is no fewer", x.shelf(3, 2, 0), 0);
    }

    private static void storeIsOfUnlikeLanes() {
        sentence("4", "STORE -15 (SHELVES of unlike LANES),");
        HedgeReader x = new HedgeReader();
        for (int one = 0; one < 3; one++) {
            for (int other = 0; other < 3; other++) {
                x.shelf(0, one, 2);
                x.shelf(1, other, 2);
                due("copy", x.copy(0, 0, 1, 0, 2), one == other ? 2 : -15);
                due("copy of none", x.copy(1, 0, 0, 0, 0), one == other ? 0 : -15);
            }
        }
    }

    private static void theFirstInThisOrderButAsTold() {
        sentence("4", "of several the first in this order, but as told; it changes nothing.");
        HedgeReader x = lively();
        refused(x, "null ahead of cast and index", () -> x.lay(3, 1, -1, 1), NULL);
        refused(x, "cast ahead of index", () -> x.lay(0, 1, -1, 1), CAST);
        refused(x, "null ahead of index", () -> x.look(3, 24), NULL);
        refused(x, "null ahead of store and index", () -> x.copy(3, -1, 1, -1, -1), NULL);
        refused(x, "as told: store ahead of index", () -> x.copy(0, -1, 1, -1, -1), STORE);
        refused(x, "null ahead of cast and index", () -> x.list(3, 1, -1), NULL);
        refused(x, "cast ahead of index", () -> x.list(0, 2, -1), CAST);
    }

    // ---- refusals

    private static void refusedChangesNothing() {
        sentence("refused", "Refused, and nothing changes:");
        HedgeReader x = lively();
        HedgeReader twin = lively();
        refused(x, "many refused calls", () -> refuseMany(x), 0);
        due("fault", x.fault(), twin.fault());
        for (int i = 0; i < 5; i++) {
            due("undo", x.undo(), twin.undo());
            Checks.isTrue("as without them", Checks.stateOf(x).equals(Checks.stateOf(twin)));
        }
        due("back(1)", x.back(1), NOT);
        due("back(0)", x.back(0), twin.back(0));
        Checks.isTrue("as without them", Checks.stateOf(x).equals(Checks.stateOf(twin)));
    }

    private static long refuseMany(HedgeReader x) {
        due("write", x.write(256), OUTSIDE);
        due("through", x.through(3), NOT);
        due("through", x.through(5), UNKNOWN);
        due("read", x.read(), NOT);
        due("rain", x.rain(0), OUTSIDE);
        due("plough", x.plough(4), NOT);
        due("plough", x.plough(5), UNKNOWN);
        due("keep", x.keep(2), UNKNOWN);
        due("back", x.back(2), UNKNOWN);
        due("back", x.back(1), NOT);
        due("seen", x.seen(0, 9, 9), OUTSIDE);
        due("shelf", x.shelf(0, 0, 25), OUTSIDE);
        due("shelf", x.shelf(0, 0, -1), SIZE);
        due("lay", x.lay(0, 0, 4, 1), INDEX);
        due("copy", x.copy(0, 0, 2, 0, 4), INDEX);
        due("copy", x.copy(2, 1, 0, 0, 3), INDEX);
        due("copy", x.copy(0, 0, 1, 0, 1), STORE);
        due("drop", x.drop(3), NULL);
        due("list", x.list(0, 0, 3), INDEX);
        return 0;
    }

    private static void unknownIsNoSuch() {
        sentence("refused", "UNKNOWN (no such FIELD, GATE, WORD, TALE, place, SHELF),");
        HedgeReader x = lively();
        due("field", x.field(5, 0), UNKNOWN);
        due("gate", x.gate(5, 0), UNKNOWN);
        due("word", x.word(7, 0), UNKNOWN);
        due("tale", x.whole(4), UNKNOWN);
        due("place", x.letter(0, 6), UNKNOWN);
        due("place of a word", x.word(0, 6), UNKNOWN);
        due("shelf", x.look(4, 0), UNKNOWN);
        due("the last of each", x.field(4, 1) + x.gate(4, 2) + x.word(6, 1) + x.letter(3, 4), 2 + 3 + 21 + 24);
    }

    private static void outsideIsAnotherNumber() {
        sentence("refused", "OUTSIDE (another number is not as told),");
        HedgeReader x = lively();
        due("letter", x.write(256), OUTSIDE);
        due("what", x.field(0, 8), OUTSIDE);
        due("kind", x.as(0, 5), OUTSIDE);
        due("r", x.rain(10), OUTSIDE);
        due("k", x.feast(7), OUTSIDE);
        due("n", x.seen(0, 9, 0), OUTSIDE);
        due("q", x.odds(0, 0, 11, 0), OUTSIDE);
        due("lane", x.shelf(0, 3, 0), OUTSIDE);
        due("what", x.count(14), OUTSIDE);
    }

    private static void notNow() {
        sentence("refused", "NOT (not now: as told),");
        HedgeReader x = five();
        refused(x, "parish", () -> x.parish(), NOT);
        refused(x, "through", () -> x.through(1), NOT);
        refused(x, "undo", () -> x.undo(), NOT);
        refused(x, "back", () -> x.back(0), NOT);
        x.through(0);
        x.keep(0);
        Checks.write(x, "dark 60");
        due("through now", x.through(1), 2);
        due("undo now", x.undo(), 1);
        due("back now", x.back(0), 0);
        due("parish now", x.parish(), 1);
    }

    private static void fullIsFull() {
        sentence("refused", "FULL,");
        HedgeReader x = five();
        Checks.write(x, "e".repeat(200));
        for (int i = 0; i < 6; i++) {
            x.seen(0, 1, 3);
        }
        for (int i = 0; i < 999; i++) {
            x.day();
        }
        refused(x, "write", () -> x.write('e'), FULL);
        refused(x, "seen", () -> x.seen(0, 1, 1), FULL);
        refused(x, "day", () -> x.day(), FULL);
    }

    private static void thenWhatTheMachineFinds() {
        sentence("refused", "then what the machine finds:");
        HedgeReader x = lively();
        refused(x, "unknown ahead of null", () -> x.look(4, -1), UNKNOWN);
        refused(x, "outside ahead of size", () -> x.shelf(0, 3, -1), OUTSIDE);
        refused(x, "outside ahead of null", () -> x.lay(3, 3, -1, 0), OUTSIDE);
        refused(x, "outside ahead of cast", () -> x.lay(0, 3, -1, 0), OUTSIDE);
        refused(x, "outside ahead of null", () -> x.list(3, -1, -1), OUTSIDE);
        refused(x, "unknown ahead of null", () -> x.copy(3, 0, 4, 0, 0), UNKNOWN);
        refused(x, "unknown ahead of null", () -> x.copy(4, 0, 3, 0, 0), UNKNOWN);
    }

    private static void theFirstThatFits() {
        sentence("refused", "the first of these that fits.");
        HedgeReader x = lively();
        refused(x, "field", () -> x.field(5, 8), UNKNOWN);
        refused(x, "gate", () -> x.gate(-1, 3), UNKNOWN);
        refused(x, "as", () -> x.as(5, 5), UNKNOWN);
        refused(x, "as", () -> x.as(0, 5), OUTSIDE);
        refused(x, "could", () -> x.could(5, 2), UNKNOWN);
        refused(x, "which", () -> x.which(-1, -1), UNKNOWN);
        refused(x, "odds", () -> x.odds(5, 9, 11, 2), UNKNOWN);
        refused(x, "seen", () -> x.seen(5, 9, 61), UNKNOWN);
        refused(x, "shelf", () -> x.shelf(4, 3, 25), UNKNOWN);
        refused(x, "lay", () -> x.lay(-1, 3, -1, 0), UNKNOWN);
        refused(x, "list", () -> x.list(4, 3, -1), UNKNOWN);
        for (int i = 1; i < 6; i++) {
            x.seen(0, 1, 1);
        }
        refused(x, "seen outside ahead of full", () -> x.seen(0, 0, 61), OUTSIDE);
        refused(x, "seen unknown ahead of full", () -> x.seen(5, 0, 0), UNKNOWN);
        Checks.write(x, " ".repeat(193));
        refused(x, "write outside ahead of full", () -> x.write(-1), OUTSIDE);
        refused(x, "write full", () -> x.write(255), FULL);
    }

    private static void partsInLowestTerms() {
        sentence("refused", "Parts are told in lowest terms: above (part 0), below (1).");
        HedgeReader x = told("thorn 0 1 eoeo");
        int[][] want = {{1, 1}, {6561, 10000}, {256, 625}, {2401, 10000}, {81, 625}, {1, 16}, {16, 625}, {81, 10000}, {1, 625}, {1, 10000}, {0, 1}};
        for (int q = 0; q <= 10; q++) {
            due("above, q " + q, x.odds(0, 4, q, 0), want[q][0]);
            due("below, q " + q, x.odds(0, 4, q, 1), want[q][1]);
        }
    }

    // ---- promises 31 to 33

    private static void p31Shelf() {
        sentence("P31", "A SHELF is a new row of n numbers 0 of a LANE: n.");
        HedgeReader x = new HedgeReader();
        due("24", x.shelf(0, 2, 24), 24);
        for (int i = 0; i < 24; i++) {
            due("number " + i, x.look(0, i), BASE);
            x.lay(0, 2, i, i + 1);
        }
        due("fewer", x.shelf(0, 1, 5), 5);
        numbersAre(x, 0, 0, 0, 0, 0, 0);
        due("more again", x.shelf(0, 2, 24), 24);
        for (int i = 0; i < 24; i++) {
            due("number " + i, x.look(0, i), BASE);
        }
        due("none", x.shelf(0, 0, 0), 0);
        due("it is there", x.count(11), 1);
        due("drop", x.drop(0), 0);
    }

    private static void p31ShelfUnknown() {
        sentence("P31", "UNKNOWN;");
        HedgeReader x = lively();
        for (int shelf : off(0, 3)) {
            refused(x, "shelf(" + shelf + ", 0, 1)", () -> x.shelf(shelf, 0, 1), UNKNOWN);
        }
    }

    private static void p31ShelfOutside() {
        sentence("P31", "OUTSIDE (LANE; n above 24);");
        HedgeReader x = lively();
        for (int lane : off(0, 2)) {
            refused(x, "shelf(0, " + lane + ", 1)", () -> x.shelf(0, lane, 1), OUTSIDE);
        }
        refused(x, "shelf(0, 0, 25)", () -> x.shelf(0, 0, 25), OUTSIDE);
        refused(x, "shelf(0, 0, most int)", () -> x.shelf(0, 0, MOST_INT), OUTSIDE);
        due("24", x.shelf(0, 0, 24), 24);
    }

    private static void p31ShelfSize() {
        sentence("P31", "SIZE.");
        HedgeReader x = lively();
        for (int n : new int[] {-1, -2, -24, -1000, LEAST_INT}) {
            refused(x, "shelf(0, 0, " + n + ")", () -> x.shelf(0, 0, n), SIZE);
        }
    }

    private static void p32Lay() {
        sentence("P32", "Number i of a SHELF, taken as of a LANE, becomes v, its lowest bits, as many as the LANE has: 1.");
        HedgeReader x = new HedgeReader();
        for (int lane = 0; lane < 3; lane++) {
            x.shelf(lane, lane, 3);
        }
        int[] put = {0, 1, -1, 127, 128, -128, -129, 255, 256, 32767, 32768, -32768, -32769, 65535, 65536, MOST_INT, LEAST_INT};
        for (int v : put) {
            long[] want = {(byte) v, (short) v, v};
            for (int lane = 0; lane < 3; lane++) {
                due("lay", x.lay(lane, lane, 1, v), 1);
                due(v + " in lane " + lane, x.look(lane, 1), BASE + want[lane]);
            }
        }
        for (int lane = 0; lane < 3; lane++) {
            due("first", x.lay(lane, lane, 0, 5), 1);
            due("last", x.lay(lane, lane, 2, 7), 1);
            due("others stay", x.lay(lane, lane, 1, 6), 1);
            numbersAre(x, lane, 5, 6, 7);
        }
    }

    private static void p32LayUnknown() {
        sentence("P32", "UNKNOWN;");
        HedgeReader x = lively();
        for (int shelf : off(0, 3)) {
            refused(x, "lay(" + shelf + ", 0, 0, 1)", () -> x.lay(shelf, 0, 0, 1), UNKNOWN);
        }
    }

    private static void p32LayOutside() {
        sentence("P32", "OUTSIDE (LANE);");
        HedgeReader x = lively();
        for (int lane : off(0, 2)) {
            refused(x, "lay(0, " + lane + ", 0, 1)", () -> x.lay(0, lane, 0, 1), OUTSIDE);
        }
    }

    private static void p32LayNull() {
        sentence("P32", "NULL;");
        HedgeReader x = lively();
        refused(x, "missing", () -> x.lay(3, 0, 0, 1), NULL);
        x.drop(0);
        refused(x, "dropped", () -> x.lay(0, 0, 0, 1), NULL);
    }

    private static void p32LayCast() {
        sentence("P32", "CAST;");
        HedgeReader x = lively();
        refused(x, "bytes as shorts", () -> x.lay(0, 1, 0, 1), CAST);
        refused(x, "bytes as ints", () -> x.lay(0, 2, 0, 1), CAST);
        refused(x, "shorts as bytes", () -> x.lay(1, 0, 0, 1), CAST);
        x.shelf(1, 2, 2);
        refused(x, "ints as shorts", () -> x.lay(1, 1, 0, 1), CAST);
        due("ints as ints", x.lay(1, 2, 0, 1), 1);
    }

    private static void p32LayIndex() {
        sentence("P32", "INDEX.");
        HedgeReader x = lively();
        for (int i : off(0, 3)) {
            refused(x, "lay(0, 0, " + i + ", 1)", () -> x.lay(0, 0, i, 1), INDEX);
        }
        x.shelf(0, 0, 0);
        refused(x, "of none", () -> x.lay(0, 0, 0, 1), INDEX);
    }

    private static void p33Look() {
        sentence("P33", "Number i of a SHELF, and 10000000000 more.");
        HedgeReader x = new HedgeReader();
        x.shelf(3, 2, 24);
        x.lay(3, 2, 0, LEAST_INT);
        x.lay(3, 2, 23, MOST_INT);
        x.lay(3, 2, 22, -7);
        due("least", x.look(3, 0), 10000000000L - 2147483648L);
        due("most", x.look(3, 23), 10000000000L + 2147483647L);
        due("below 0", x.look(3, 22), 9999999993L);
        due("0", x.look(3, 1), 10000000000L);
    }

    private static void p33LookUnknown() {
        sentence("P33", "UNKNOWN;");
        HedgeReader x = lively();
        for (int shelf : off(0, 3)) {
            refused(x, "look(" + shelf + ", 0)", () -> x.look(shelf, 0), UNKNOWN);
        }
    }

    private static void p33LookNull() {
        sentence("P33", "NULL;");
        HedgeReader x = lively();
        refused(x, "missing", () -> x.look(3, 0), NULL);
        x.drop(1);
        refused(x, "dropped", () -> x.look(1, 0), NULL);
    }

    private static void p33LookIndex() {
        sentence("P33", "INDEX.");
        HedgeReader x = lively();
        for (int i : off(0, 3)) {
            refused(x, "look(0, " + i + ")", () -> x.look(0, i), INDEX);
        }
        x.shelf(0, 0, 24);
        x.shelf(0, 0, 2);
        refused(x, "behind a shorter one's end", () -> x.look(0, 2), INDEX);
    }

    // ---- promises 34, 35

    /** Shelf 0 holds 1 to 5, shelf 1 three bytes, shelf 2 three shorts; shelf 3 is missing. */
    private static HedgeReader shelved() {
        HedgeReader x = new HedgeReader();
        x.shelf(0, 0, 5);
        x.shelf(1, 0, 3);
        x.shelf(2, 1, 3);
        for (int i = 0; i < 5; i++) {
            x.lay(0, 0, i, i + 1);
        }
        return x;
    }

    private static void p34Copy() {
        sentence("P34", "n numbers of a SHELF from i on come to another one (or itself) from j on,");
        HedgeReader x = shelved();
        due("all of the other", x.copy(0, 2, 1, 0, 3), 3);
        numbersAre(x, 1, 3, 4, 5);
        due("one, at the end", x.copy(0, 0, 1, 2, 1), 1);
        numbersAre(x, 1, 3, 4, 1);
        due("back", x.copy(1, 1, 0, 3, 2), 2);
        numbersAre(x, 0, 1, 2, 3, 4, 1);
        numbersAre(x, 1, 3, 4, 1);
        due("itself", x.copy(0, 0, 0, 3, 1), 1);
        numbersAre(x, 0, 1, 2, 3, 1, 1);
        due("none", x.copy(0, 0, 1, 0, 0), 0);
        numbersAre(x, 1, 3, 4, 1);
        x.lay(0, 0, 0, 99);
        due("they are numbers of their own", x.look(1, 2), BASE + 1);
    }

    private static void p34CopyAsIfAllWereTakenAhead() {
        sentence("P34", "as if all were taken ahead: n.");
        HedgeReader x = shelved();
        due("up", x.copy(0, 0, 0, 1, 4), 4);
        numbersAre(x, 0, 1, 1, 2, 3, 4);
        x = shelved();
        due("down", x.copy(0, 1, 0, 0, 4), 4);
        numbersAre(x, 0, 2, 3, 4, 5, 5);
        x = shelved();
        due("where they are", x.copy(0, 0, 0, 0, 5), 5);
        numbersAre(x, 0, 1, 2, 3, 4, 5);
    }

    private static void p34CopyUnknown() {
        sentence("P34", "UNKNOWN;");
        HedgeReader x = shelved();
        for (int shelf : off(0, 3)) {
            refused(x, "copy from " + shelf, () -> x.copy(shelf, 0, 0, 0, 1), UNKNOWN);
            refused(x, "copy to " + shelf, () -> x.copy(0, 0, shelf, 0, 1), UNKNOWN);
        }
    }

    private static void p34CopyNull() {
        sentence("P34", "NULL (either);");
        HedgeReader x = shelved();
        refused(x, "from a missing one", () -> x.copy(3, 0, 0, 0, 1), NULL);
        refused(x, "to a missing one", () -> x.copy(0, 0, 3, 0, 1), NULL);
        refused(x, "from and to it", () -> x.copy(3, 0, 3, 0, 0), NULL);
    }

    private static void p34CopyStore() {
        sentence("P34", "STORE;");
        HedgeReader x = shelved();
        refused(x, "bytes to shorts", () -> x.copy(0, 0, 2, 0, 1), STORE);
        refused(x, "shorts to bytes", () -> x.copy(2, 0, 0, 0, 1), STORE);
        refused(x, "none of them", () -> x.copy(2, 0, 0, 0, 0), STORE);
    }

    private static void p34CopyIndex() {
        sentence("P34", "INDEX (i, j, n below 0, or beyond an end).");
        HedgeReader x = shelved();
        int[][] wrong = {{-1, 0, 1}, {0, -1, 1}, {0, 0, -1}, {-1, 0, 0}, {0, -1, 0}, {3, 0, 3}, {0, 1, 3}, {6, 0, 0}, {0, 4, 0},
            {5, 0, 1}, {0, 3, 1}, {0, 0, 4}, {1, 0, MOST_INT}, {MOST_INT, 0, 1}, {0, MOST_INT, MOST_INT}, {MOST_INT, MOST_INT, MOST_INT},
            {LEAST_INT, 0, 1}, {0, LEAST_INT, 1}, {0, 0, LEAST_INT}, {LEAST_INT, LEAST_INT, LEAST_INT}, {1, 1, MOST_INT}};
        for (int[] w : wrong) {
            refused(x, "copy " + w[0] + " " + w[1] + " " + w[2], () -> x.copy(0, w[0], 1, w[1], w[2]), INDEX);
        }
        due("none at the ends", x.copy(0, 5, 1, 3, 0), 0);
        due("just to both ends", x.copy(0, 2, 1, 0, 3), 3);
        refused(x, "beyond its own end", () -> x.copy(0, 0, 0, 1, 5), INDEX);
    }

    private static void p34CopyStoreAheadOfIndex() {
        sentence("P34", "(STORE ahead of INDEX.)");
        HedgeReader x = shelved();
        refused(x, "i", () -> x.copy(0, -1, 2, 0, 1), STORE);
        refused(x, "j", () -> x.copy(2, 0, 1, 4, 1), STORE);
        refused(x, "n", () -> x.copy(0, 0, 2, 0, -1), STORE);
    }

    private static void p35Drop() {
        sentence("P35", "A SHELF is missing from now on: how many numbers it had.");
        HedgeReader x = shelved();
        due("five", x.drop(0), 5);
        due("missing", x.look(0, 0), NULL);
        due("there are", x.count(11), 2);
        due("others stay", x.drop(1), 3);
        x.shelf(3, 2, 0);
        due("none", x.drop(3), 0);
        x.shelf(0, 0, 5);
        numbersAre(x, 0, 0, 0, 0, 0, 0);
    }

    private static void p35DropUnknown() {
        sentence("P35", "UNKNOWN;");
        HedgeReader x = lively();
        for (int shelf : off(0, 3)) {
            refused(x, "drop(" + shelf + ")", () -> x.drop(shelf), UNKNOWN);
        }
    }

    private static void p35DropNull() {
        sentence("P35", "NULL.");
        HedgeReader x = lively();
        refused(x, "missing at first", () -> x.drop(3), NULL);
        x.drop(0);
        refused(x, "dropped", () -> x.drop(0), NULL);
    }

    // ---- promises 36, 37

    private static void p36List() {
        sentence("P36", "FIELDS of the FEAST, in order, come to a SHELF, taken as of a LANE, from i on: how many.");
        HedgeReader x = five();
        for (int lane = 0; lane < 3; lane++) {
            x.shelf(lane, lane, 5);
            for (int i = 0; i < 5; i++) {
                x.lay(lane, lane, i, 90 + i);
            }
            due("from 1 on", x.list(lane, lane, 1), 3);
            numbersAre(x, lane, 90, 0, 2, 3, 94);
        }
        due("just to the end", x.list(0, 0, 2), 3);
        numbersAre(x, 0, 90, 0, 0, 2, 3);
        x.shelf(3, 2, 3);
        due("all of it", x.list(3, 2, 0), 3);
        numbersAre(x, 3, 0, 2, 3);
        due("the feast stays", x.feast(-2), 3);
    }

    private static void p36ListUnknown() {
        sentence("P36", "UNKNOWN;");
        HedgeReader x = lively();
        for (int shelf : off(0, 3)) {
            refused(x, "list(" + shelf + ", 0, 0)", () -> x.list(shelf, 0, 0), UNKNOWN);
        }
    }

    private static void p36ListOutside() {
        sentence("P36", "OUTSIDE (LANE);");
        HedgeReader x = lively();
        for (int lane : off(0, 2)) {
            refused(x, "list(0, " + lane + ", 0)", () -> x.list(0, lane, 0), OUTSIDE);
        }
    }

    private static void p36ListNull() {
        sentence("P36", "NULL;");
        HedgeReader x = lively();
        refused(x, "missing", () -> x.list(3, 0, 0), NULL);
        x.drop(0);
        refused(x, "dropped", () -> x.list(0, 0, 0), NULL);
    }

    private static void p36ListCast() {
        sentence("P36", "CAST;");
        HedgeReader x = lively();
        refused(x, "bytes as shorts", () -> x.list(0, 1, 0), CAST);
        refused(x, "shorts as ints", () -> x.list(1, 2, 0), CAST);
        HedgeReader y = new HedgeReader();
        y.shelf(0, 1, 0);
        refused(y, "also if there are none", () -> y.list(0, 0, 0), CAST);
    }

    private static void p36ListIndex() {
        sentence("P36", "INDEX (it has not so many places from i on; i below 0, beyond its end,");
        HedgeReader x = five();
        x.shelf(0, 0, 5);
        x.shelf(1, 0, 2);
        for (int i : new int[] {3, 4, 5, 6, 24, -1, -2, LEAST_INT, MOST_INT}) {
            refused(x, "list(0, 0, " + i + ")", () -> x.list(0, 0, i), INDEX);
        }
        refused(x, "too short", () -> x.list(1, 0, 0), INDEX);
        due("just to the end", x.list(0, 0, 2), 3);
    }

    private static void p36ListIndexIfThereAreNone() {
        sentence("P36", "i below 0, beyond its end, also if there are none).");
        HedgeReader x = new HedgeReader();
        x.shelf(0, 0, 3);
        due("none at 0", x.list(0, 0, 0), 0);
        due("none at the end", x.list(0, 0, 3), 0);
        for (int i : off(0, 3)) {
            refused(x, "list(0, 0, " + i + ")", () -> x.list(0, 0, i), INDEX);
        }
        x.shelf(0, 0, 0);
        due("none in none", x.list(0, 0, 0), 0);
        refused(x, "beyond it", () -> x.list(0, 0, 1), INDEX);
    }

    private static void p37Count() {
        sentence("P37", "0 FIELDS, 1 GATES, 2 WORDS, 3 DARK, 4 the DAY, 5 the MINUTE, 6 the FIELD where one stands (NONE: there is none), "
            + "7 FIELDS that are READ (bits), 8 how WET it is, 9 LETTERS that are LEFT in all, 10 SEEN, 11 SHELVES that are there, "
            + "12 how many can be undone, 13 letters of THE TEXT.");
        HedgeReader x = five();
        x.day();
        x.rain(2);
        x.through(0);
        x.read();
        x.seen(0, 1, 1);
        x.shelf(2, 0, 1);
        Checks.write(x, "abc");
        int[] want = {5, 5, 7, 60, 1, 13, 1, 2, 2, 24 - 2 - 2 - 2, 1, 1, 4, 3};
        for (int what = 0; what <= 13; what++) {
            due("count(" + what + ")", x.count(what), want[what]);
        }
        x.erase();
        tell(x, "parish");
        due("there is none", x.count(6), NONE);
        due("no letters left", x.count(9), 0);
    }

    private static void p37CountEachLeastAndMost() {
        sentence("P37", "7 FIELDS that are READ (bits), 8 how WET it is, 9 LETTERS that are LEFT in all, 10 SEEN, 11 SHELVES that are there, "
            + "12 how many can be undone, 13 letters of THE TEXT.");
        HedgeReader x = told("hazel 0 1 abcdefgh;hazel 0 1 abcdefgh;hazel 0 1 abcdefgh;hazel 0 1 abcdefgh;hazel 0 1 abcdefgh;"
            + "hazel 0 1 abcdefgh;hazel 0 1 abcdefgh", "gate 0 1 1;gate 1 2 1;gate 2 3 1;gate 3 4 1;gate 4 5 1;gate 5 6 1;dark 99");
        due("letters left", x.count(9), 56);
        x.read();
        for (int g = 0; g < 6; g++) {
            x.through(g);
            x.read();
        }
        due("all are read", x.count(7), 127);
        due("minute", x.count(5), 62);
        due("where", x.count(6), 6);
        x.rain(9);
        due("wet", x.count(8), 9);
        due("no letters left", x.count(9), 0);
        due("undone", x.count(12), 8);
        for (int s = 0; s < 4; s++) {
            x.shelf(s, 0, 0);
        }
        due("shelves", x.count(11), 4);
    }

    private static void p37CountOutside() {
        sentence("P37", "OUTSIDE.");
        HedgeReader x = lively();
        for (int what : off(0, 13)) {
            refused(x, "count(" + what + ")", () -> x.count(what), OUTSIDE);
        }
    }
}
