/** Section 3 of the document, and promises 20 to 30: what is foretold, and what was seen. */
final class ForetoldSentences extends Sentences {
    private static final String SEVEN_IN_A_ROW =
        "bramble 0 1 abcdefgh;bramble 0 2 abcdefgh;bramble 0 3 abcdefgh;bramble 0 4 abcdefgh;bramble 0 5 abcdefgh;"
        + "bramble 0 6 abcdefgh;bramble 0 7 abcdefgh";
    private static final String SIX_LONG_GATES = "gate 6 5 30;gate 5 4 30;gate 4 3 30;gate 3 2 30;gate 2 1 30;gate 1 0 30";

    private ForetoldSentences() {
    }

    static void all() {
        farAndWhole();
        feast();
        leastGates();
        couldAndWhich();
        seenAndOdds();
        p20ToP22();
        p23ToP24();
        p25ToP26();
        p27ToP29();
        p30();
    }

    private static void farAndWhole() {
        foretoldChangesNothing();
        farIsTheFewestMinutes();
        farIs0ToItselfOrNone();
        wholeGoesByChapters();
        wholeGoesByNumbersOfLikeChapters();
        wholeReadsWhatIsReadAlreadyDarkAside();
        wholeIsNone();
    }

    private static void feast() {
        feastIsOfFieldsNotRead();
        feastGoesByFarFromNowOn();
        feastIsNotLaterThanDark();
        feastReadsMostLetters();
        feastIsTheShortest();
        feastIsTheFirst();
        feastIsNone();
    }

    private static void leastGates() {
        leastIsTheFewestOfTheseTheLeast();
        leastComesFromWhereOneStands();
        leastIsNone();
    }

    private static void couldAndWhich() {
        couldIsOfWordsAsLong();
        couldHasTheSameLettersLeft();
        couldHasAnyOthers();
        couldHasWhatBirdsTake();
        whichIsOfPlacesGone();
        whichHasTheFewestAlike();
        whichIsTheLeastOfSeveral();
        whichIsNone();
    }

    private static void seenAndOdds() {
        seenSixAtMost();
        kindsByWhichAllWouldBeSo();
        oddsThatAtLeastMAreLeft();
        oddsByQOfTen();
    }

    private static void p20ToP22() {
        p20Far();
        p20FarUnknown();
        p21Whole();
        p21WholeUnknown();
        p22Before();
        p22BeforeJustAtDark();
        p22BeforeUnknown();
    }

    private static void p23ToP24() {
        p23Feast();
        p23FeastOutside();
        p24Least();
        p24LeastUnknown();
    }

    private static void p25ToP26() {
        p25Could();
        p25CouldUnknown();
        p25CouldOutside();
        p26Which();
        p26WhichUnknown();
        p26WhichOutside();
    }

    private static void p27ToP29() {
        p27Seen();
        p27SeenUnknown();
        p27SeenOutside();
        p27SeenFull();
        p28Forget();
        p29Kinds();
        p29KindsUnknown();
    }

    private static void p30() {
        p30Odds();
        p30OddsUnknown();
        p30OddsOutside();
    }

    // ---- section 3

    private static void foretoldChangesNothing() {
        sentence("3", "FORETOLD (nothing changes).");
        HedgeReader x = lively();
        HedgeReader twin = lively();
        refused(x, "all that is foretold", () -> foretellAll(x), 0);
        for (int i = 0; i < 5; i++) {
            due("undo", x.undo(), twin.undo());
            Checks.isTrue("as without foretelling", Checks.stateOf(x).equals(Checks.stateOf(twin)));
        }
        due("back", x.back(0), twin.back(0));
        Checks.isTrue("as without foretelling", Checks.stateOf(x).equals(Checks.stateOf(twin)));
    }

    private static long foretellAll(HedgeReader x) {
        for (int a = -1; a <= 5; a++) {
            for (int b = -1; b <= 5; b++) {
                x.far(a, b);
                x.could(a, b);
                x.which(a, b);
                x.odds(a, b, 5, 0);
            }
            x.whole(a);
            x.before(a);
            x.least(a);
            x.feast(a);
            x.kinds(a);
        }
        return 0;
    }

    private static void farIsTheFewestMinutes() {
        sentence("3", "FAR: the fewest MINUTES from a FIELD to another one");
        HedgeReader x = five();
        int[][] want = {{0, 4, 10, 13}, {4, 0, 6, 9}, {10, 6, 0, 3}, {13, 9, 3, 0}};
        for (int a = 0; a < 4; a++) {
            for (int b = 0; b < 4; b++) {
                due("far(" + a + ", " + b + ")", x.far(a, b), want[a][b]);
            }
        }
        due("later than any dark", told(SEVEN_IN_A_ROW, SIX_LONG_GATES).far(0, 6), 180);
        tell(x, "gate 3 0 1");
        due("a gate more", x.far(0, 2), 4);
        due("a gate more", x.far(1, 3), 5);
    }

    private static void farIs0ToItselfOrNone() {
        sentence("3", "(0: itself); none.");
        HedgeReader x = five();
        for (int f = 0; f < 5; f++) {
            due("itself", x.far(f, f), 0);
        }
        for (int f = 0; f < 4; f++) {
            due("none to", x.far(f, 4), NONE);
            due("none from", x.far(4, f), NONE);
        }
        HedgeReader y = told("thorn 0 1 a;thorn 0 1 a");
        due("without gates", y.far(0, 1), NONE);
        due("itself", y.far(1, 1), 0);
    }

    private static void wholeGoesByChapters() {
        sentence("3", "WHOLE of a TALE: MINUTES in which one, from where one stands, goes (by FAR) to all its FIELDS by CHAPTERS,");
        HedgeReader x = five();
        due("1, 0", x.whole(0), 4 + 9 + 4 + 13);
        due("2, 3", x.whole(1), 10 + 22 + 3 + 5);
        x.through(2);
        due("from field 2: 1, 0", x.whole(0), 6 + 9 + 4 + 13);
        due("from field 2: 2, 3", x.whole(1), 22 + 3 + 5);
        HedgeReader y = told("hazel 3 9 abc;hazel 3 1 ab;gate 0 1 7");
        due("the first chapter ahead of the last", y.whole(3), 7 + 2 + 7 + 3);
        HedgeReader z = told("hazel 1 9 a;hazel 1 8 a;hazel 1 7 a;hazel 1 6 a;hazel 1 5 a;hazel 1 4 a;hazel 1 3 a", SIX_LONG_GATES);
        due("all from the last", z.whole(1), 180 + 7 + 180);
    }

    private static void wholeGoesByNumbersOfLikeChapters() {
        sentence("3", "of like ones by numbers,");
        HedgeReader x = told("hazel 0 2 a;hazel 0 1 ab;hazel 0 2 abc;hazel 0 1 abcd;gate 0 1 1;gate 0 2 2;gate 2 3 4");
        due("1, 3, 0, 2", x.whole(0), 1 + 2 + 7 + 4 + 6 + 1 + 2 + 3);
        HedgeReader y = told("hazel 1 1 a;hazel 0 5 a;hazel 0 5 a;gate 0 1 9;gate 1 2 1;gate 0 2 1");
        due("1, 2, though 2 is nearer", y.whole(0), 2 + 1 + 1 + 1);
    }

    private static void wholeReadsWhatIsReadAlreadyDarkAside() {
        sentence("3", "and READS each there (READ already or not; DARK aside), as LETTERS are LEFT, as WET now;");
        HedgeReader x = five();
        x.read();
        due("read already", x.whole(0), 30);
        x.rain(2);
        due("as letters are left", x.whole(0), 4 + 9 + 4 + 9);
        x.rain(4);
        due("a holly wet by 4", x.whole(0), 4 + 9 + 4 + 1);
        x.rain(5);
        due("a holly wet by 5", x.whole(0), NONE);
        due("no holly in it", x.whole(1), 10 + 2 * (2 * 2 + 1) + 3);
        x.day();
        due("dry", x.whole(0), 4 + 9 + 4 + 1);
        due("dark aside", told(SEVEN_IN_A_ROW, SIX_LONG_GATES, "dark 10").whole(0), 7 * 34 + 6 * 30);
        HedgeReader y = told("hazel 0 1 a");
        y.plough(0);
        due("no minutes are some", y.whole(0), 0);
    }

    private static void wholeIsNone() {
        sentence("3", "none (there is no such FIELD, one cannot be come to, cannot be READ).");
        HedgeReader x = five();
        due("no such field", x.whole(3), NONE);
        due("not to be come to", x.whole(2), NONE);
        tell(x, "hazel 1 9 a");
        due("the last not to be come to", x.whole(1), NONE);
        tell(x, "hazel 0 1 a;gate 6 0 1");
        due("come to", x.whole(0), 4 + 9 + 5 + 1 + 1 + 13);
        x.rain(9);
        due("one cannot be read", x.whole(0), NONE);
        due("no fields", new HedgeReader().whole(0), NONE);
    }

    private static void feastIs(HedgeReader x, int letters, int... row) {
        due("letters", x.feast(NONE), letters);
        due("fields", x.feast(-2), row.length);
        for (int k = 0; k < 7; k++) {
            due("field " + k, x.feast(k), k < row.length ? row[k] : NONE);
        }
    }

    private static void feastIsOfFieldsNotRead() {
        sentence("3", "FEAST: the row of FIELDS that are not READ,");
        HedgeReader x = told("hazel 0 1 abc;hazel 0 1 ab;gate 0 1 1");
        feastIs(x, 5, 0, 1);
        x.read();
        feastIs(x, 2, 1);
        x.through(0);
        x.read();
        feastIs(x, 0);
        x.day();
        feastIs(x, 5, 0, 1);
        HedgeReader y = told("holly 0 1 abc;hazel 0 1 abcdefgh;gate 0 1 1");
        y.rain(4);
        feastIs(y, 7, 0, 1);
        y.rain(5);
        feastIs(y, 0);
        HedgeReader z = told("holly 0 1 abc;hazel 0 1 abcdefgh;gate 0 1 1");
        z.rain(5);
        feastIs(z, 3, 1);
    }

    private static void feastGoesByFarFromNowOn() {
        sentence("3", "to each of which one goes (by FAR) and READS it there, one behind the other from now on,");
        // 0, 2, 3: 13 + 10 + 22 + 3 + 5 = 53 MINUTES; with 1 it is 13 + 4 + 9 + 6 + 22 + 3 + 5 = 62.
        HedgeReader x = five();
        feastIs(x, 16, 0, 2, 3);
        x.through(0);
        // 1, 0, 3: 4 + 9 + 4 + 13 + 13 + 5 = 48; 0, 2, 3: 4 + 57; 1, 2, 3: 4 + 9 + 6 + 22 + 3 + 5 = 49.
        feastIs(x, 15, 0, 1, 3);
        x.through(0);
        x.read();
        // Of 1, 2, 3 by MINUTE 60 from 0 at 21: 2, 3 in 40 is too long; 1, 3 is 4 + 9 + 9 + 5 = 27.
        feastIs(x, 9, 1, 3);
    }

    private static void feastIsNotLaterThanDark() {
        sentence("3", "so that it is not later than DARK then,");
        HedgeReader x = five();
        tell(x, "dark 62");
        feastIs(x, 20, 0, 1, 2, 3);
        tell(x, "dark 61");
        feastIs(x, 16, 0, 2, 3);
        tell(x, "dark 13");
        feastIs(x, 6, 0);
        tell(x, "dark 12");
        feastIs(x, 0);
        HedgeReader y = told("bramble 0 1 ab;dark 10");
        feastIs(y, 2, 0);
        y = told("bramble 0 1 abc;dark 10");
        feastIs(y, 0);
    }

    private static void feastReadsMostLetters() {
        sentence("3", "by which most LETTERS (LEFT) are READ,");
        HedgeReader x = told("hazel 0 1 a;hazel 0 1 ab;hazel 0 1 ab;hazel 0 1 abcd;gate 0 1 3;gate 1 2 1;gate 0 3 6;dark 10");
        feastIs(x, 5, 0, 1, 2);
        HedgeReader y = told("thorn 0 1 abcdefgh;hazel 0 1 abcdef;gate 0 1 1;dark 17");
        feastIs(y, 8, 0);
        y.rain(1);
        feastIs(y, 7, 0);
        y.rain(2);
        feastIs(y, 8, 0, 1);
        tell(y, "dark 13");
        feastIs(y, 6, 1);
        y.rain(3);
        feastIs(y, 5, 0);
        HedgeReader z = told("hazel 0 1 abcdefgh;hazel 0 1 abcdefgh;hazel 0 1 abcdefgh;hazel 0 1 abcdefgh;hazel 0 1 abcdefgh;"
            + "hazel 0 1 abcdefgh;hazel 0 1 abcdefgh", "gate 0 1 1;gate 1 2 1;gate 2 3 1;gate 3 4 1;gate 4 5 1;gate 5 6 1;dark 62");
        feastIs(z, 56, 0, 1, 2, 3, 4, 5, 6);
        tell(z, "dark 61");
        feastIs(z, 48, 0, 1, 2, 3, 4, 5);
    }

    private static void feastIsTheShortest() {
        sentence("3", "of several the shortest,");
        HedgeReader x = told("hazel 0 1 a;hazel 0 1 ab;hazel 0 1 ab;hazel 0 1 abcd;gate 0 1 3;gate 1 2 1;gate 0 3 6;dark 11");
        feastIs(x, 5, 0, 3);
        HedgeReader y = told("bramble 0 1 a;hazel 0 1 ab;hazel 0 1 ab;hazel 0 1 abcd;gate 0 1 3;gate 1 2 1;gate 0 3 6;dark 10");
        feastIs(y, 4, 3);
        tell(y, "parish;thorn 0 1 abcd;hazel 0 1 ab;hazel 0 1 ab;gate 0 1 3;gate 1 2 3;dark 10");
        feastIs(y, 4, 0);
        HedgeReader z = told("hazel 0 1 ab;hazel 0 1 ab;gate 0 1 1");
        z.plough(0);
        feastIs(z, 2, 1);
        z.plough(1);
        feastIs(z, 0);
    }

    private static void feastIsTheFirst() {
        sentence("3", "of these the first:");
        HedgeReader x = told("hazel 0 1 a;hazel 0 1 a;hazel 0 1 a;gate 0 1 9;gate 0 2 9");
        feastIs(x, 3, 0, 1, 2);
        x.through(1);
        feastIs(x, 3, 0, 1, 2);
        HedgeReader y = told("hazel 0 1 a;hazel 0 1 ab;hazel 0 1 ab;gate 0 1 9;gate 0 2 1;dark 10");
        // 2 ahead of 0 is as good, and it is not the first.
        feastIs(y, 3, 0, 2);
        // 0, 2, 1 takes 11 MINUTES; 0, 1, 2 takes 13.
        HedgeReader z = told("hazel 0 1 a;hazel 0 1 a;hazel 0 1 a;gate 0 1 4;gate 0 2 2;dark 12");
        feastIs(z, 3, 0, 2, 1);
        tell(z, "dark 13");
        feastIs(z, 3, 0, 1, 2);
    }

    private static void feastIsNone() {
        sentence("3", "how many LETTERS; how many FIELDS; the k-th; none.");
        feastIs(new HedgeReader(), 0);
        HedgeReader x = told("thorn 0 1 abcdefgh;dark 16");
        feastIs(x, 0);
        x.plough(0);
        feastIs(x, 0);
        HedgeReader y = told("hazel 0 1 a;hazel 0 1 abcdefgh");
        feastIs(y, 1, 0);
    }

    private static void leastIsTheFewestOfTheseTheLeast() {
        sentence("3", "LEAST GATES of a TALE: the set of GATES (bits), the fewest, of as few the least,");
        HedgeReader x = five();
        due("one gate", x.least(0), 0b00001);
        due("two gates: 2 and 3, not 2 and 4, not 0, 1 and 3", x.least(1), 0b01100);
        HedgeReader y = told("thorn 1 1 a;thorn 0 1 b;gate 1 0 1;gate 0 1 1");
        due("the first of two", y.least(0), 0b01);
        HedgeReader z = told("thorn 0 1 a;thorn 1 1 b;thorn 1 1 c;gate 0 1 1;gate 1 2 1;gate 0 2 30");
        due("minutes are aside", z.least(1), 0b011);
        tell(z, "thorn 2 1 d;gate 1 3 1;gate 2 3 1");
        due("two are fewer than three", z.least(2), 0b01001);
        HedgeReader all = told(SEVEN_IN_A_ROW, "gate 0 1 1;gate 0 1 1;gate 0 1 1;" + SIX_LONG_GATES);
        due("six of nine", all.least(0), 0b011111001);
    }

    private static void leastComesFromWhereOneStands() {
        sentence("3", "through which alone one can come to all its FIELDS from where one stands;");
        HedgeReader x = five();
        x.through(0);
        due("from field 1", x.least(1), 0b01010);
        due("from field 1", x.least(0), 0b00001);
        HedgeReader y = told("thorn 0 1 a;thorn 1 1 b;gate 0 1 1");
        due("one stands there: no gate", y.least(0), 0);
        y.through(0);
        due("one stands there: no gate", y.least(1), 0);
        due("back", y.least(0), 1);
        HedgeReader z = told(SEVEN_IN_A_ROW, SIX_LONG_GATES, "dark 10");
        z.read();
        due("later than dark", z.least(0), 0b111111);
        z.rain(9);
        due("read and gone are no matter", z.least(0), 0b111111);
    }

    private static void leastIsNone() {
        sentence("3", "none (there is no such FIELD, too).");
        HedgeReader x = five();
        due("not to be come to", x.least(2), NONE);
        due("no such field", x.least(3), NONE);
        due("no fields", new HedgeReader().least(0), NONE);
        tell(x, "hazel 0 1 a");
        due("one of three not to be come to", x.least(0), NONE);
    }

    private static void couldIsOfWordsAsLong() {
        sentence("3", "COULD of a FIELD: WORDS of THE LEXICON (bits) of as many LETTERS as its LINE");
        HedgeReader x = told("bramble 0 1 abc;word ab;word abc;word abcd;word xyz;word a;word abcdefgh");
        x.plough(0);
        due("of three letters", x.could(0, 0), 0b001010);
        HedgeReader y = told("thorn 0 1 abcdefgh;thorn 0 1 x;word x;word y;word bcdefghi");
        y.plough(0);
        y.plough(1);
        due("of eight letters", y.could(0, 0), 0b100);
        due("of one letter", y.could(1, 0), 0b011);
        due("no words", told("thorn 0 1 a").could(0, 0), 0);
        due("three as long, all unlike", five().could(4, 0), 0);
    }

    private static void couldHasTheSameLettersLeft() {
        sentence("3", "that have the same ones at all places where these are LEFT,");
        HedgeReader x = five();
        due("dogma", x.could(2, 0), 0b0000010);
        due("dogma", x.could(2, 1), 0b0000010);
        x.birds();
        due("p..m", x.could(1, 0), 0b0001000);
        x.rain(4);
        due("dogm.", x.could(2, 0), 0b0000110);
        HedgeReader y = told("thorn 0 1 abc;word abd;word xbc;word axc");
        due("unlike at one place", y.could(0, 0), 0);
        y.rain(1);
        due("ab.", y.could(0, 0), 0b001);
    }

    private static void couldHasAnyOthers() {
        sentence("3", "and (what 0) any others,");
        HedgeReader x = told("thorn 0 1 abcd;word aaaa;word zzzz;word abcd;word eoeo;word aaab;word bbbb;word cccc;word abce");
        x.rain(3);
        due("a...", x.could(0, 0), 0b10010101);
        x.rain(1);
        due("all eight", x.could(0, 0), 255);
    }

    private static void couldHasWhatBirdsTake() {
        sentence("3", "or (what 1) at all other places LETTERS that BIRDS take from its KIND.");
        String words = "word rib;word rab;word rxb;word rob;word reb;word rub;word ryb;word rob";
        int eo = 0b10011000;
        int vowels = 0b10111011;
        HedgeReader x = told("thorn 0 1 rob;holly 0 1 reb;bramble 0 1 rob;hazel 0 1 rub", words);
        x.birds();
        due("thorn", x.could(0, 1), eo);
        due("holly", x.could(1, 1), eo);
        due("bramble, all left", x.could(2, 1), 0b10001000);
        due("hazel", x.could(3, 1), vowels);
        due("thorn, any", x.could(0, 0), 255);
        x.rain(4);
        due("thorn: r is no bird's", x.could(0, 1), 0);
        due("bramble: b is no bird's", x.could(2, 1), 0);
        due("bramble, any", x.could(2, 0), 0b10001000);
    }

    private static void whichIsOfPlacesGone() {
        sentence("3", "WHICH of a FIELD, likewise: the place of its LINE at which a LETTER is GONE,");
        HedgeReader x = told("thorn 0 1 abc;word abc;word abd;word abe");
        x.rain(1);
        due("the last", x.which(0, 0), 2);
        due("what birds would take", x.which(0, 1), 2);
        HedgeReader y = told("hazel 0 1 abc;word abc;word dbc");
        y.rain(1);
        due("the first", y.which(0, 0), 0);
        HedgeReader z = told("thorn 0 1 abcdefgh;word abcdefgh");
        z.rain(1);
        due("place 7", z.which(0, 0), 7);
    }

    private static void whichHasTheFewestAlike() {
        sentence("3", "by which, were it known, the most of these WORDS that are alike there are fewest,");
        HedgeReader x = told("hazel 0 1 aeb;word aab;word aeb;word iib;word oob;word xyb");
        x.birds();
        due("0 has a a, 1 has all unlike", x.which(0, 0), 1);
        due("vowels likewise", x.which(0, 1), 1);
        // Of four: at 0 a a b b, at 1 c c c d, at 2 e f g h.
        HedgeReader y = told("bramble 0 1 xyz;word ace;word acf;word bcg;word bdh;word bdhi");
        y.plough(0);
        due("all unlike", y.which(0, 0), 2);
        HedgeReader z = told("bramble 0 1 xy;word aa;word aa;word bb;word cb;word db;word eb");
        z.plough(0);
        due("two of six, not four of six", z.which(0, 0), 0);
        HedgeReader w = told("thorn 0 1 xy;word eo;word ee;word oe;word ae;word be;word ce");
        w.plough(0);
        due("of any words", w.which(0, 0), 0);
        tell(w, "word oo;word ex");
        w.plough(0);
        due("of bird words: e e o o, o e e o", w.which(0, 1), 0);
    }

    private static void whichIsTheLeastOfSeveral() {
        sentence("3", "of several the least;");
        HedgeReader x = five();
        x.plough(1);
        // poem, pour, roem: at 0 p p r, at 1 o o o, at 2 e u e, at 3 m r m.
        due("0, 2 and 3 are like", x.which(1, 0), 0);
        HedgeReader y = told("thorn 0 1 abc;word abc");
        y.rain(2);
        due("one word", y.which(0, 0), 1);
    }

    private static void whichIsNone() {
        sentence("3", "none (there is no such WORD, no such place).");
        HedgeReader x = five();
        due("no such place", x.which(0, 0), NONE);
        due("no such place", x.which(2, 1), NONE);
        due("neither", x.which(4, 0), NONE);
        x.plough(1);
        due("a word", x.which(1, 0), 0);
        due("no such word", x.which(1, 1), NONE);
        HedgeReader y = told("thorn 0 1 a");
        y.plough(0);
        due("no words", y.which(0, 0), NONE);
    }

    private static void seenSixAtMost() {
        sentence("3", "SEEN, 6 at most: READING a HEDGE, of which n LETTERS (0 .. 8) were LEFT, took m MINUTES (0 .. 60).");
        HedgeReader x = five();
        due("least", x.seen(0, 0, 0), 1);
        due("most", x.seen(4, 8, 60), 2);
        for (int i = 3; i <= 6; i++) {
            due("seen", x.seen(1, 1, 1), i);
        }
        refused(x, "a seventh", () -> x.seen(2, 2, 2), FULL);
        refused(x, "n above", () -> x.seen(0, 9, 0), OUTSIDE);
        refused(x, "m above", () -> x.seen(0, 0, 61), OUTSIDE);
    }

    private static void kindsByWhichAllWouldBeSo() {
        sentence("3", "KINDS (0 .. 3, by bits) by which all that is SEEN of a FIELD would be so.");
        HedgeReader x = five();
        for (int n = 0; n <= 8; n++) {
            for (int m = 0; m <= 60; m++) {
                x.seen(2, n, m);
                int want = (m == 2 * n + 1 ? 3 : 0) | (m == 4 * n + 2 ? 4 : 0) | (m == n ? 8 : 0);
                due("kinds by " + n + " in " + m, x.kinds(2), want);
                due("of another field", x.kinds(1), 15);
                x.forget();
            }
        }
        x.seen(0, 3, 7);
        x.seen(0, 8, 17);
        x.seen(0, 0, 1);
        x.seen(1, 0, 0);
        x.seen(1, 8, 8);
        due("all of thorns", x.kinds(0), 3);
        due("all of hazels", x.kinds(1), 8);
        x.seen(0, 2, 4);
        due("not all", x.kinds(0), 0);
        due("nothing seen", x.kinds(4), 15);
    }

    /** BIRD ODDS, both parts. */
    private static void oddsAre(HedgeReader x, int field, int m, int q, int above, int below) {
        String what = "odds(" + field + ", " + m + ", " + q + ")";
        due(what, x.odds(field, m, q, 0), above);
        due(what, x.odds(field, m, q, 1), below);
    }

    private static void oddsThatAtLeastMAreLeft() {
        sentence("3", "BIRD ODDS: the odds that at least m LETTERS (0 .. 8) of a FIELD's LINE are LEFT behind BIRDS,");
        HedgeReader x = five();
        // eoeo: all four are in danger; of reader two of six; of ivory two of five; of dogma none.
        oddsAre(x, 4, 0, 5, 1, 1);
        oddsAre(x, 4, 1, 5, 15, 16);
        oddsAre(x, 4, 2, 5, 11, 16);
        oddsAre(x, 4, 3, 5, 5, 16);
        oddsAre(x, 4, 4, 5, 1, 16);
        oddsAre(x, 4, 5, 5, 0, 1);
        oddsAre(x, 0, 4, 5, 1, 1);
        oddsAre(x, 0, 5, 5, 3, 4);
        oddsAre(x, 0, 6, 5, 1, 4);
        oddsAre(x, 0, 7, 5, 0, 1);
        oddsAre(x, 1, 3, 5, 3, 4);
        oddsAre(x, 2, 5, 5, 1, 1);
        oddsAre(x, 2, 6, 5, 0, 1);
        oddsAre(x, 3, 5, 5, 1, 4);
        x.rain(3);
        oddsAre(x, 0, 3, 5, 1, 2);
        oddsAre(x, 4, 1, 5, 1, 2);
        x.plough(0);
        oddsAre(x, 0, 0, 5, 1, 1);
        oddsAre(x, 0, 1, 5, 0, 1);
        oddsAre(told("hazel 0 1 aeiouaei"), 0, 8, 5, 1, 256);
    }

    private static void oddsByQOfTen() {
        sentence("3", "if each that they would take is taken by q of ten (0 .. 10), by itself.");
        HedgeReader x = five();
        oddsAre(x, 4, 4, 0, 1, 1);
        oddsAre(x, 4, 0, 10, 1, 1);
        oddsAre(x, 4, 1, 10, 0, 1);
        oddsAre(x, 0, 4, 10, 1, 1);
        oddsAre(x, 0, 5, 10, 0, 1);
        oddsAre(x, 2, 5, 10, 1, 1);
        oddsAre(x, 4, 1, 1, 9999, 10000);
        oddsAre(x, 4, 4, 1, 6561, 10000);
        oddsAre(x, 4, 4, 3, 2401, 10000);
        oddsAre(x, 0, 5, 2, 24, 25);
        HedgeReader y = told("hazel 0 1 aeiouaei");
        oddsAre(y, 0, 8, 7, 6561, 100000000);
        oddsAre(y, 0, 8, 9, 1, 100000000);
        oddsAre(y, 0, 1, 1, 99999999, 100000000);
    }

    // ---- promises 20 to 22

    private static void p20Far() {
        sentence("P20", "FAR; NONE.");
        HedgeReader x = five();
        due("far", x.far(0, 3), 13);
        due("far back", x.far(3, 0), 13);
        due("none", x.far(3, 4), NONE);
        x.through(2);
        x.rain(9);
        due("where one stands is no matter", x.far(0, 3), 13);
    }

    private static void p20FarUnknown() {
        sentence("P20", "UNKNOWN.");
        HedgeReader x = lively();
        for (int field : off(0, 4)) {
            refused(x, "far(" + field + ", 0)", () -> x.far(field, 0), UNKNOWN);
            refused(x, "far(0, " + field + ")", () -> x.far(0, field), UNKNOWN);
            due("far to itself", x.far(field, field), UNKNOWN);
        }
        due("none at all", new HedgeReader().far(0, 0), UNKNOWN);
    }

    private static void p21Whole() {
        sentence("P21", "WHOLE; NONE.");
        HedgeReader x = five();
        due("whole", x.whole(0), 30);
        due("whole", x.whole(1), 40);
        due("none", x.whole(2), NONE);
        due("none", x.whole(3), NONE);
    }

    private static void p21WholeUnknown() {
        sentence("P21", "UNKNOWN.");
        HedgeReader x = lively();
        for (int tale : off(0, 3)) {
            refused(x, "whole(" + tale + ")", () -> x.whole(tale), UNKNOWN);
        }
    }

    private static void p22Before() {
        sentence("P22", "1 the TALE is WHOLE so soon that it is not later than DARK then, 0 not.");
        HedgeReader x = five();
        due("before dark", x.before(0), 1);
        due("before dark", x.before(1), 1);
        due("none", x.before(2), 0);
        due("none", x.before(3), 0);
        x.rain(5);
        due("it cannot be read", x.before(0), 0);
        due("no fields", new HedgeReader().before(0), 0);
    }

    private static void p22BeforeJustAtDark() {
        sentence("P22", "so soon that it is not later than DARK then, 0 not.");
        HedgeReader x = five();
        tell(x, "dark 30");
        due("just at dark", x.before(0), 1);
        tell(x, "dark 29");
        due("a minute later", x.before(0), 0);
        tell(x, "dark 34");
        x.through(0);
        due("from field 1 in 26", x.before(0), 1);
        x.through(0);
        due("from field 0 at minute 8", x.before(0), 0);
        tell(x, "dark 38");
        x.through(0);
        x.through(0);
        due("just at dark", x.before(0), 1);
        x.rain(1);
        due("earlier", x.before(0), 1);
        HedgeReader y = told("thorn 0 1 ab;dark 10");
        y.read();
        due("read already, just at dark", y.before(0), 1);
    }

    private static void p22BeforeUnknown() {
        sentence("P22", "UNKNOWN.");
        HedgeReader x = lively();
        for (int tale : off(0, 3)) {
            refused(x, "before(" + tale + ")", () -> x.before(tale), UNKNOWN);
        }
    }

    // ---- promises 23, 24

    private static void p23Feast() {
        sentence("P23", "FEAST: how many LETTERS (k NONE), how many FIELDS (k -2), the k-th (0 .. 6; NONE: the row is not so long).");
        HedgeReader x = five();
        due("letters", x.feast(-1), 16);
        due("fields", x.feast(-2), 3);
        int[] row = {0, 2, 3, NONE, NONE, NONE, NONE};
        for (int k = 0; k <= 6; k++) {
            due("field " + k, x.feast(k), row[k]);
        }
        HedgeReader y = told("hazel 0 1 a;hazel 0 1 a;hazel 0 1 a;hazel 0 1 a;hazel 0 1 a;hazel 0 1 a;hazel 0 1 a",
            "gate 0 1 1;gate 1 2 1;gate 2 3 1;gate 3 4 1;gate 4 5 1;gate 5 6 1");
        due("seven", y.feast(-2), 7);
        due("the last", y.feast(6), 6);
    }

    private static void p23FeastOutside() {
        sentence("P23", "OUTSIDE.");
        HedgeReader x = lively();
        for (int k : off(-2, 6)) {
            refused(x, "feast(" + k + ")", () -> x.feast(k), OUTSIDE);
        }
        due("no fields", new HedgeReader().feast(7), OUTSIDE);
    }

    private static void p24Least() {
        sentence("P24", "LEAST GATES; NONE.");
        HedgeReader x = five();
        due("least", x.least(0), 0b00001);
        due("least", x.least(1), 0b01100);
        due("none", x.least(2), NONE);
        due("none", x.least(3), NONE);
    }

    private static void p24LeastUnknown() {
        sentence("P24", "UNKNOWN.");
        HedgeReader x = lively();
        for (int tale : off(0, 3)) {
            refused(x, "least(" + tale + ")", () -> x.least(tale), UNKNOWN);
        }
    }

    // ---- promises 25, 26

    private static void p25Could() {
        sentence("P25", "COULD.");
        HedgeReader x = five();
        x.birds();
        due("p..m", x.could(1, 0), 0b0001000);
        due("p..m by birds", x.could(1, 1), 0b0001000);
        due("r.ad.r", x.could(0, 0), 0b0000001);
        due("no such word", x.could(4, 1), 0);
    }

    private static void p25CouldUnknown() {
        sentence("P25", "UNKNOWN;");
        HedgeReader x = lively();
        for (int field : off(0, 4)) {
            refused(x, "could(" + field + ", 0)", () -> x.could(field, 0), UNKNOWN);
        }
    }

    private static void p25CouldOutside() {
        sentence("P25", "OUTSIDE.");
        HedgeReader x = lively();
        for (int what : off(0, 1)) {
            refused(x, "could(0, " + what + ")", () -> x.could(0, what), OUTSIDE);
        }
    }

    private static void p26Which() {
        sentence("P26", "WHICH; NONE.");
        HedgeReader x = five();
        due("none", x.which(1, 0), NONE);
        x.birds();
        due("p..m", x.which(1, 0), 1);
        due("p..m by birds", x.which(1, 1), 1);
        x.plough(2);
        // dogma, dogme, ivory: at 0 d d i, at 1 o o v, at 2 g g o, at 3 m m r, at 4 a e y.
        due("the last place", x.which(2, 0), 4);
        due("a bramble's are not taken by birds", x.which(2, 1), NONE);
    }

    private static void p26WhichUnknown() {
        sentence("P26", "UNKNOWN;");
        HedgeReader x = lively();
        for (int field : off(0, 4)) {
            refused(x, "which(" + field + ", 0)", () -> x.which(field, 0), UNKNOWN);
        }
    }

    private static void p26WhichOutside() {
        sentence("P26", "OUTSIDE.");
        HedgeReader x = lively();
        for (int what : off(0, 1)) {
            refused(x, "which(0, " + what + ")", () -> x.which(0, what), OUTSIDE);
        }
    }

    // ---- promises 27 to 29

    private static void p27Seen() {
        sentence("P27", "SEEN: how many.");
        HedgeReader x = five();
        for (int i = 1; i <= 6; i++) {
            due("seen", x.seen(i % 5, i, 10 * i), i);
            due("count(10)", x.count(10), i);
        }
        x.day();
        x.undo();
        due("not undone", x.count(10), 6);
    }

    private static void p27SeenUnknown() {
        sentence("P27", "UNKNOWN;");
        HedgeReader x = lively();
        for (int field : off(0, 4)) {
            refused(x, "seen(" + field + ", 1, 1)", () -> x.seen(field, 1, 1), UNKNOWN);
        }
    }

    private static void p27SeenOutside() {
        sentence("P27", "OUTSIDE;");
        HedgeReader x = lively();
        for (int n : off(0, 8)) {
            refused(x, "seen(0, " + n + ", 1)", () -> x.seen(0, n, 1), OUTSIDE);
        }
        for (int m : off(0, 60)) {
            refused(x, "seen(0, 1, " + m + ")", () -> x.seen(0, 1, m), OUTSIDE);
        }
    }

    private static void p27SeenFull() {
        sentence("P27", "FULL.");
        HedgeReader x = five();
        for (int i = 0; i < 6; i++) {
            x.seen(0, 3, 7);
        }
        refused(x, "a seventh", () -> x.seen(0, 3, 3), FULL);
        due("kinds by the six", x.kinds(0), 3);
        x.forget();
        due("room again", x.seen(0, 3, 3), 1);
        due("kinds by it", x.kinds(0), 8);
    }

    private static void p28Forget() {
        sentence("P28", "SEEN is nothing: how many there were.");
        HedgeReader x = five();
        due("none", x.forget(), 0);
        x.seen(0, 0, 0);
        x.seen(0, 0, 0);
        due("two", x.forget(), 2);
        due("forgotten", x.count(10), 0);
        due("kinds", x.kinds(0), 15);
        for (int i = 0; i < 7; i++) {
            x.seen(0, 0, 0);
        }
        due("six", x.forget(), 6);
        due("none again", x.forget(), 0);
    }

    private static void p29Kinds() {
        sentence("P29", "KINDS, by bits.");
        HedgeReader x = five();
        due("nothing seen", x.kinds(3), 15);
        x.seen(3, 4, 9);
        due("thorn, holly", x.kinds(3), 3);
        x.forget();
        x.seen(3, 4, 18);
        due("bramble", x.kinds(3), 4);
        x.forget();
        x.seen(3, 4, 4);
        due("hazel", x.kinds(3), 8);
        x.seen(3, 4, 5);
        due("none", x.kinds(3), 0);
    }

    private static void p29KindsUnknown() {
        sentence("P29", "UNKNOWN.");
        HedgeReader x = lively();
        for (int field : off(0, 4)) {
            refused(x, "kinds(" + field + ")", () -> x.kinds(field), UNKNOWN);
        }
    }

    // ---- promise 30

    private static void p30Odds() {
        sentence("P30", "BIRD ODDS.");
        HedgeReader x = five();
        oddsAre(x, 0, 5, 4, 21, 25);
        oddsAre(x, 1, 2, 4, 1, 1);
        oddsAre(x, 1, 4, 4, 9, 25);
        x.birds();
        oddsAre(x, 1, 2, 4, 1, 1);
        oddsAre(x, 1, 3, 4, 0, 1);
    }

    private static void p30OddsUnknown() {
        sentence("P30", "UNKNOWN;");
        HedgeReader x = lively();
        for (int field : off(0, 4)) {
            refused(x, "odds(" + field + ", 1, 1, 0)", () -> x.odds(field, 1, 1, 0), UNKNOWN);
        }
    }

    private static void p30OddsOutside() {
        sentence("P30", "OUTSIDE.");
        HedgeReader x = lively();
        for (int m : off(0, 8)) {
            refused(x, "odds(0, " + m + ", 1, 0)", () -> x.odds(0, m, 1, 0), OUTSIDE);
        }
        for (int q : off(0, 10)) {
            refused(x, "odds(0, 1, " + q + ", 0)", () -> x.odds(0, 1, q, 0), OUTSIDE);
        }
        for (int part : off(0, 1)) {
            refused(x, "odds(0, 1, 1, " + part + ")", () -> x.odds(0, 1, 1, part), OUTSIDE);
        }
    }
}
