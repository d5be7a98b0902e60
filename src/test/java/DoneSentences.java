/** Section 2 of the document, and promises 11 to 19: what is done. */
final class DoneSentences extends Sentences {
    private static final String ALPHABET = "abcdefghijklmnopqrstuvwxyz";

    private DoneSentences() {
    }

    static void all() {
        minutesOfKinds();
        rain();
        birds();
        goingThroughAndReading();
        ploughedAndDay();
        p11AndP12();
        p13ToP16();
        p17();
        p18AndP19();
    }

    private static void minutesOfKinds() {
        thornTakesTwiceAsManyAndOne();
        hollyTakesAsAThorn();
        brambleTakesTwiceAThorns();
        hazelTakesAsMany();
        hollyCannotBeReadWetBy5();
        kindsAreOverOneAnother();
    }

    private static void rain() {
        rainIsFrom1To9();
        rainTakesOfThoseLeft();
        rainTakesAThornsLast();
        rainTakesNoneOfAHolly();
        rainTakesOfABrambleByThreeLess();
        rainTakesAHazelsFirst();
        itIsWetByR();
    }

    private static void birds() {
        birdsTakeOfAThorn();
        birdsTakeOfAHolly();
        birdsTakeNoneOfABramble();
        birdsTakeOfAHazel();
    }

    private static void goingThroughAndReading() {
        throughAGateOfTheField();
        readsThere();
        notWhatIsReadOnThisDay();
        soManyMinutesGoBy();
        notLaterThanDark();
    }

    private static void ploughedAndDay() {
        ploughedAllLettersGone();
        aDayIsMinute0NothingRead();
        aDayIsDryAndOneStandsWhereOneDoes();
        aDayIsTheNext();
    }

    private static void p11AndP12() {
        p11Through();
        p11ThroughUnknown();
        p11ThroughNotAtTheField();
        p11ThroughNotLaterThanDark();
        p12Read();
        p12ReadNotWithoutFields();
        p12ReadNotWhatIsRead();
        p12ReadNotWhatCannotBe();
        p12ReadNotLaterThanDark();
    }

    private static void p13ToP16() {
        p13Rain();
        p13RainOutside();
        p14Birds();
        p15Plough();
        p15PloughUnknown();
        p15PloughNotOfNone();
        p16Day();
        p16DayFull();
    }

    private static void p17() {
        p17UndoTheLatest();
        p17UndoEachOfTheSix();
        p17UndoTheLastEight();
        p17UndoHowManyYet();
        p17UndoNotOfNone();
    }

    private static void p18AndP19() {
        p18KeepAll();
        p18KeepButSeenShelvesUndone();
        p18KeepTheDay();
        p18KeepUnknown();
        p19BackAsItWas();
        p19BackNothingCanBeUndone();
        p19BackTheDay();
        p19BackUnknown();
        p19BackNotKept();
        p19BackNotSinceTheLastText();
    }

    // ---- section 2

    /** MINUTES of a HEDGE with 0 to 8 LETTERS LEFT, as it tells them and as READING takes them. */
    private static void minutesAre(String kind, int... want) {
        for (int n = 8; n >= 0; n--) {
            HedgeReader x = told(kind + " 0 1 bcdfghjk", "dark 99");
            loseLetters(x, 8 - n);
            due("letters", x.field(0, 4), n);
            due("minutes by " + n, x.field(0, 6), want[n]);
            due("read", x.read(), n);
            due("minute", x.count(5), want[n]);
        }
    }

    /** Of the only FIELD, which is no HOLLY. */
    private static void loseLetters(HedgeReader x, int n) {
        int less = x.field(0, 0) == 2 ? 3 : 0;
        for (int i = 0; i < n; i++) {
            due("lost", x.rain(1 + less), 1);
        }
    }

    private static void thornTakesTwiceAsManyAndOne() {
        sentence("2", "READING a HEDGE takes MINUTES by how many LETTERS are LEFT: a THORN twice as many, and 1;");
        minutesAre("thorn", 1, 3, 5, 7, 9, 11, 13, 15, 17);
    }

    private static void hollyTakesAsAThorn() {
        sentence("2", "a HOLLY as a THORN;");
        HedgeReader x = told("holly 0 1 a;holly 0 1 bcdfghjk;holly 0 1 eoeo");
        due("of one", x.field(0, 6), 3);
        due("of eight", x.field(1, 6), 17);
        x.birds();
        due("of none", x.field(2, 6), 1);
        due("read", x.read(), 1);
        due("minute", x.count(5), 3);
    }

    private static void brambleTakesTwiceAThorns() {
        sentence("2", "a BRAMBLE twice a THORN's;");
        minutesAre("bramble", 2, 6, 10, 14, 18, 22, 26, 30, 34);
    }

    private static void hazelTakesAsMany() {
        sentence("2", "a HAZEL as many.");
        minutesAre("hazel", 0, 1, 2, 3, 4, 5, 6, 7, 8);
    }

    private static void hollyCannotBeReadWetBy5() {
        sentence("2", "A HOLLY cannot be READ while it is WET by 5 or more.");
        for (int r = 1; r <= 9; r++) {
            for (String kind : new String[] {"thorn", "holly", "bramble", "hazel"}) {
                HedgeReader x = told(kind + " 0 1 bcdfghjk", "dark 99");
                x.rain(r);
                int left = x.field(0, 4);
                boolean cannot = kind.equals("holly") && r >= 5;
                due(kind + " wet by " + r, x.read(), cannot ? NOT : left);
                due("whole", x.whole(0), cannot ? NONE : x.field(0, 6));
            }
        }
        HedgeReader x = told("holly 0 1 abc");
        x.rain(5);
        x.rain(4);
        due("less wet again", x.read(), 3);
    }

    private static void kindsAreOverOneAnother() {
        sentence("2", "KINDS of HEDGES are over one another: HEDGE (0); THORN (1) under it; HOLLY (2) is THORN; "
            + "BRAMBLE (3) is THORN; HAZEL (4) is a HEDGE.");
        HedgeReader x = five();
        int[] bits = {0b00011, 0b00111, 0b01011, 0b10001};
        for (int f = 0; f < 4; f++) {
            int such = 0;
            for (int kind = 0; kind <= 4; kind++) {
                such |= x.as(f, kind) == NOT ? 0 : 1 << kind;
            }
            due("what field " + f + " is", such, bits[f]);
        }
    }

    private static void rainIsFrom1To9() {
        sentence("2", "RAIN by r (1 .. 9):");
        HedgeReader x = told("thorn 0 1 abcdefgh;thorn 0 1 ab");
        due("least", x.rain(1), 2);
        due("most", x.rain(9), 8);
        refused(x, "rain(0)", () -> x.rain(0), OUTSIDE);
        refused(x, "rain(10)", () -> x.rain(10), OUTSIDE);
    }

    private static void rainTakesOfThoseLeft() {
        sentence("2", "LETTERS become GONE, of those that are LEFT:");
        HedgeReader x = told("thorn 0 1 eaeae;hazel 0 1 aabab");
        x.birds();
        due("thorn's left", x.field(0, 5), 0b01010);
        due("hazel's left", x.field(1, 5), 0b10100);
        due("rain", x.rain(1), 2);
        due("thorn's last left", x.field(0, 5), 0b00010);
        due("hazel's first left", x.field(1, 5), 0b10000);
        due("rain", x.rain(2), 2);
        due("none left", x.rain(9), 0);
    }

    private static void rainTakesAThornsLast() {
        sentence("2", "of a THORN the last r (all, if there are not more);");
        for (int r = 1; r <= 9; r++) {
            HedgeReader x = told("thorn 0 1 abcdefgh;thorn 0 1 abc");
            due("rain by " + r, x.rain(r), Math.min(r, 8) + Math.min(r, 3));
            due("of eight by " + r, x.field(0, 5), (1 << Math.max(0, 8 - r)) - 1);
            due("of three by " + r, x.field(1, 5), (1 << Math.max(0, 3 - r)) - 1);
        }
    }

    private static void rainTakesNoneOfAHolly() {
        sentence("2", "of a HOLLY none;");
        HedgeReader x = told("holly 0 1 abcdefgh");
        for (int r = 1; r <= 9; r++) {
            due("rain by " + r, x.rain(r), 0);
            due("left", x.field(0, 5), 255);
        }
    }

    private static void rainTakesOfABrambleByThreeLess() {
        sentence("2", "of a BRAMBLE as of a THORN by r less 3 (none by 3 and less);");
        for (int r = 1; r <= 9; r++) {
            HedgeReader x = told("bramble 0 1 abcdefgh;bramble 0 1 abc");
            int lost = Math.max(0, r - 3);
            due("rain by " + r, x.rain(r), lost + Math.min(lost, 3));
            due("of eight by " + r, x.field(0, 5), (1 << (8 - lost)) - 1);
            due("of three by " + r, x.field(1, 5), (1 << Math.max(0, 3 - lost)) - 1);
        }
    }

    private static void rainTakesAHazelsFirst() {
        sentence("2", "of a HAZEL the first r;");
        for (int r = 1; r <= 9; r++) {
            HedgeReader x = told("hazel 0 1 abcdefgh;hazel 0 1 abc");
            due("rain by " + r, x.rain(r), Math.min(r, 8) + Math.min(r, 3));
            due("of eight by " + r, x.field(0, 5), 255 & 255 << r);
            due("of three by " + r, x.field(1, 5), 7 & 7 << r);
        }
    }

    private static void itIsWetByR() {
        sentence("2", "it is WET by r.");
        HedgeReader x = new HedgeReader();
        due("at first", x.count(8), 0);
        for (int r : new int[] {1, 9, 3, 3, 8, 2}) {
            x.rain(r);
            due("by the latest", x.count(8), r);
        }
    }

    /** Which letters of all BIRDS take from a KIND. */
    private static void birdsTake(String kind, String taken) {
        int gone = 0;
        for (int c = 0; c < 26; c++) {
            HedgeReader x = told(kind + " 0 1 " + ALPHABET.charAt(c));
            gone |= x.birds() << c;
            due("left", x.field(0, 4), gone >> c & 1 ^ 1);
        }
        int want = 0;
        for (char letter : taken.toCharArray()) {
            want |= 1 << (letter - 'a');
        }
        due("letters that birds take from a " + kind, gone, want);
    }

    private static void birdsTakeOfAThorn() {
        sentence("2", "BIRDS come: of a THORN each e and each o becomes GONE;");
        birdsTake("thorn", "eo");
        HedgeReader x = told("thorn 0 1 eaoeobeo");
        due("each", x.birds(), 6);
        due("left", x.field(0, 5), 0b00100010);
    }

    private static void birdsTakeOfAHolly() {
        sentence("2", "of a HOLLY as of a THORN;");
        birdsTake("holly", "eo");
        HedgeReader x = told("holly 0 1 eaoeobeo");
        due("each", x.birds(), 6);
        due("left", x.field(0, 5), 0b00100010);
    }

    private static void birdsTakeNoneOfABramble() {
        sentence("2", "of a BRAMBLE none;");
        birdsTake("bramble", "");
        HedgeReader x = told("bramble 0 1 aeiouoie");
        due("none", x.birds(), 0);
        due("left", x.field(0, 5), 255);
    }

    private static void birdsTakeOfAHazel() {
        sentence("2", "of a HAZEL each a, e, i, o, u.");
        birdsTake("hazel", "aeiou");
        HedgeReader x = told("hazel 0 1 aeioubau");
        due("each", x.birds(), 7);
        due("left", x.field(0, 5), 0b00100000);
    }

    private static void throughAGateOfTheField() {
        sentence("2", "One goes THROUGH a GATE of the FIELD where one stands,");
        HedgeReader x = five();
        due("of the field", x.through(0), 1);
        refused(x, "of others", () -> x.through(2), NOT);
        due("of the field", x.through(1), 2);
        refused(x, "of others", () -> x.through(0), NOT);
        due("of the field, as told the other way", x.through(4), 3);
        due("where one stands", x.count(6), 3);
    }

    private static void readsThere() {
        sentence("2", "or READS there");
        HedgeReader x = five();
        x.through(0);
        due("poem", x.read(), 4);
        due("it alone is read", x.count(7), 0b00010);
        due("its letters stay", x.field(1, 4), 4);
    }

    private static void notWhatIsReadOnThisDay() {
        sentence("2", "(not what is READ on this DAY);");
        HedgeReader x = told("hazel 0 1 a;hazel 0 1 b;gate 0 1 1");
        due("read", x.read(), 1);
        refused(x, "read again", () -> x.read(), NOT);
        x.through(0);
        due("the other", x.read(), 1);
        x.through(0);
        refused(x, "come back", () -> x.read(), NOT);
        x.day();
        due("on the next day", x.read(), 1);
        x.undo();
        due("undone and read", x.read(), 1);
    }

    private static void soManyMinutesGoBy() {
        sentence("2", "so many MINUTES go by;");
        HedgeReader x = five();
        x.read();
        due("reading", x.count(5), 13);
        x.through(0);
        due("and going", x.count(5), 17);
        x.through(1);
        due("and going", x.count(5), 23);
        x.read();
        due("and reading", x.count(5), 45);
        x.rain(1);
        x.birds();
        x.plough(0);
        due("nothing else takes any", x.count(5), 45);
    }

    private static void notLaterThanDark() {
        sentence("2", "it must not be later than DARK then.");
        HedgeReader x = told("thorn 0 1 ab;hazel 0 1 ab;gate 0 1 5;dark 10");
        due("read", x.read(), 2);
        due("just at dark", x.through(0), 1);
        due("minute", x.count(5), 10);
        refused(x, "later to go", () -> x.through(0), NOT);
        refused(x, "later to read", () -> x.read(), NOT);
        x.plough(1);
        due("of no letters, just at dark", x.read(), 0);
        HedgeReader y = told("thorn 0 1 abc;hazel 0 1 ab;gate 0 1 4;dark 10");
        y.read();
        refused(y, "a minute later", () -> y.through(0), NOT);
        HedgeReader z = told("bramble 0 1 ab;dark 10", "bramble 0 1 ab;gate 0 1 1");
        due("just at dark", z.read(), 2);
        z.undo();
        z.through(0);
        refused(z, "a minute later", () -> z.read(), NOT);
    }

    private static void ploughedAllLettersGone() {
        sentence("2", "PLOUGHED is a FIELD: all its LETTERS are GONE.");
        HedgeReader x = five();
        x.rain(4);
        due("letters", x.plough(2), 4);
        due("left", x.field(2, 5), 0);
        due("others stay", x.field(0, 4), 2);
        due("a holly too", x.plough(1), 4);
        due("left", x.field(1, 5), 0);
        due("where one can't come to", told("thorn 0 1 a;hazel 0 1 bcd").plough(1), 3);
    }

    private static void aDayIsMinute0NothingRead() {
        sentence("2", "A DAY: it is MINUTE 0, nothing is READ,");
        HedgeReader x = five();
        x.read();
        x.through(0);
        x.read();
        x.day();
        due("minute", x.count(5), 0);
        due("read", x.count(7), 0);
        due("is read", x.field(0, 7), 0);
    }

    private static void aDayIsDryAndOneStandsWhereOneDoes() {
        sentence("2", "it is not WET, one stands where one does;");
        HedgeReader x = five();
        x.through(0);
        x.rain(9);
        int left = x.count(9);
        x.day();
        due("wet", x.count(8), 0);
        due("where", x.count(6), 1);
        due("letters stay gone", x.count(9), left);
        due("a holly can be read", x.read(), 4);
    }

    private static void aDayIsTheNext() {
        sentence("2", "it is the next DAY.");
        HedgeReader x = new HedgeReader();
        for (int day = 1; day <= 20; day++) {
            x.day();
            due("day", x.count(4), day);
        }
    }

    // ---- promises 11, 12

    private static void p11Through() {
        sentence("P11", "THROUGH a GATE: the FIELD where one comes to.");
        HedgeReader x = five();
        due("from its first", x.through(0), 1);
        due("from its second", x.through(0), 0);
        due("another", x.through(2), 2);
        due("minutes", x.count(5), 23);
        due("where", x.count(6), 2);
        due("can be undone", x.count(12), 3);
    }

    private static void p11ThroughUnknown() {
        sentence("P11", "UNKNOWN;");
        HedgeReader x = five();
        for (int gate : off(0, 4)) {
            refused(x, "through(" + gate + ")", () -> x.through(gate), UNKNOWN);
        }
        due("none at all", new HedgeReader().through(0), UNKNOWN);
    }

    private static void p11ThroughNotAtTheField() {
        sentence("P11", "NOT: it is not at the FIELD where one stands,");
        HedgeReader x = five();
        for (int gate : new int[] {1, 3, 4}) {
            refused(x, "from field 0 through(" + gate + ")", () -> x.through(gate), NOT);
        }
        x.through(0);
        for (int gate : new int[] {2, 3, 4}) {
            refused(x, "from field 1 through(" + gate + ")", () -> x.through(gate), NOT);
        }
    }

    private static void p11ThroughNotLaterThanDark() {
        sentence("P11", "it would be later than DARK.");
        HedgeReader x = told("hazel 0 1 ab;thorn 0 1 a;gate 0 1 30;gate 0 1 29;gate 0 1 1");
        x.through(0);
        due("just at dark", x.through(0), 0);
        refused(x, "a minute later", () -> x.through(2), NOT);
        x.undo();
        x.through(1);
        refused(x, "much later", () -> x.through(0), NOT);
        due("just at dark", x.through(2), 1);
        tell(x, "dark 10");
        refused(x, "from the beginning", () -> x.through(1), NOT);
        due("minute", x.count(5), 0);
    }

    private static void p12Read() {
        sentence("P12", "One READS where one stands: LETTERS that are LEFT.");
        HedgeReader x = five();
        x.rain(4);
        due("two are left", x.read(), 2);
        due("minute", x.count(5), 5);
        due("can be undone", x.count(12), 2);
        x.day();
        x.plough(0);
        due("none is left", x.read(), 0);
        due("it takes a minute", x.count(5), 1);
        due("it is read", x.count(7), 1);
    }

    private static void p12ReadNotWithoutFields() {
        sentence("P12", "NOT: there are no FIELDS,");
        HedgeReader x = new HedgeReader();
        refused(x, "none at first", () -> x.read(), NOT);
        tell(x, "thorn 0 1 a");
        due("one", x.read(), 1);
        tell(x, "parish");
        refused(x, "none again", () -> x.read(), NOT);
    }

    private static void p12ReadNotWhatIsRead() {
        sentence("P12", "it is READ,");
        HedgeReader x = told("hazel 0 1 a");
        x.plough(0);
        due("of no letters", x.read(), 0);
        refused(x, "again", () -> x.read(), NOT);
    }

    private static void p12ReadNotWhatCannotBe() {
        sentence("P12", "it cannot be READ,");
        HedgeReader x = told("holly 0 1 abc");
        x.rain(5);
        refused(x, "wet by 5", () -> x.read(), NOT);
        x.rain(9);
        refused(x, "wet by 9", () -> x.read(), NOT);
        x.day();
        due("not wet", x.read(), 3);
    }

    private static void p12ReadNotLaterThanDark() {
        sentence("P12", "it would be later than DARK.");
        HedgeReader x = told("bramble 0 1 abc;dark 13");
        refused(x, "14 minutes", () -> x.read(), NOT);
        HedgeReader y = told("bramble 0 1 abc;dark 14");
        due("just at dark", y.read(), 3);
        HedgeReader z = told("bramble 0 1 abcdefgh;dark 10");
        refused(z, "34 minutes", () -> z.read(), NOT);
    }

    // ---- promises 13 to 16

    private static void p13Rain() {
        sentence("P13", "RAIN by r: how many LETTERS became GONE.");
        HedgeReader x = five();
        due("rain by 3", x.rain(3), 3 + 0 + 0 + 3 + 3);
        due("wet", x.count(8), 3);
        due("rain by 5", x.rain(5), 3 + 0 + 2 + 2 + 1);
        due("rain by 9", x.rain(9), 0 + 0 + 3 + 0 + 0);
        due("rain on nothing", x.rain(9), 0);
        due("that can be undone too", x.count(12), 4);
        due("no fields", new HedgeReader().rain(9), 0);
    }

    private static void p13RainOutside() {
        sentence("P13", "OUTSIDE.");
        HedgeReader x = lively();
        for (int r : off(1, 9)) {
            refused(x, "rain(" + r + ")", () -> x.rain(r), OUTSIDE);
        }
    }

    private static void p14Birds() {
        sentence("P14", "BIRDS come: how many LETTERS became GONE.");
        HedgeReader x = told("thorn 0 1 aeioux;holly 0 1 aeioux;bramble 0 1 aeioux;hazel 0 1 aeioux");
        x.rain(1);
        due("what rain took is not counted", x.birds(), 2 + 2 + 0 + 4);
        due("birds again", x.birds(), 0);
        due("that can be undone too", x.count(12), 3);
        due("they don't make it wet", x.count(8), 1);
        due("no fields", new HedgeReader().birds(), 0);
    }

    private static void p15Plough() {
        sentence("P15", "PLOUGHED: how many LETTERS became GONE.");
        HedgeReader x = five();
        due("all", x.plough(3), 5);
        x.rain(2);
        due("those left", x.plough(0), 4);
        due("those of others stay", x.count(9), 4 + 5 + 2);
        due("can be undone", x.count(12), 3);
    }

    private static void p15PloughUnknown() {
        sentence("P15", "UNKNOWN;");
        HedgeReader x = lively();
        for (int field : off(0, 4)) {
            refused(x, "plough(" + field + ")", () -> x.plough(field), UNKNOWN);
        }
        due("none at all", new HedgeReader().plough(0), UNKNOWN);
    }

    private static void p15PloughNotOfNone() {
        sentence("P15", "NOT: none is LEFT.");
        HedgeReader x = five();
        x.plough(0);
        refused(x, "again", () -> x.plough(0), NOT);
        x.birds();
        refused(x, "what birds took", () -> x.plough(4), NOT);
        x.rain(9);
        refused(x, "what rain took", () -> x.plough(3), NOT);
        due("what is left", x.plough(1), 2);
    }

    private static void p16Day() {
        sentence("P16", "A DAY: how many FIELDS were READ on the one that is over.");
        HedgeReader x = five();
        due("none", x.day(), 0);
        x.read();
        due("one", x.day(), 1);
        x.read();
        x.through(0);
        x.read();
        due("two", x.day(), 2);
        due("not those of days ahead", x.day(), 0);
        due("the day", x.count(4), 4);
        due("can be undone", x.count(12), 8);
    }

    private static void p16DayFull() {
        sentence("P16", "FULL: it is DAY 999.");
        HedgeReader x = five();
        for (int day = 1; day <= 998; day++) {
            x.day();
        }
        x.read();
        due("the last", x.day(), 1);
        due("day", x.count(4), 999);
        x.read();
        refused(x, "one more", () -> x.day(), FULL);
        x.undo();
        x.undo();
        due("day", x.count(4), 998);
        due("the last again", x.day(), 1);
    }

    // ---- promise 17

    private static void p17UndoTheLatest() {
        sentence("P17", "The latest through(), read(), rain(), birds(), plough(), day() is undone");
        HedgeReader x = five();
        String[] states = new String[7];
        Runnable[] done = {() -> x.through(0), () -> x.read(), () -> x.rain(7), () -> x.birds(), () -> x.plough(2), () -> x.day()};
        for (int i = 0; i < 6; i++) {
            states[i] = Checks.goingOn(x);
            done[i].run();
            due("can be undone", x.count(12), i + 1);
        }
        x.seen(0, 1, 2);
        x.keep(0);
        x.shelf(0, 0, 4);
        x.write('a');
        for (int i = 5; i >= 0; i--) {
            due("undo", x.undo(), i);
            Checks.isTrue("as ahead of " + i, Checks.goingOn(x).equals(states[i]));
        }
        due("what is seen stays", x.count(10), 1);
        due("shelves stay", x.count(11), 1);
        due("the text stays", x.count(13), 1);
        due("what is kept stays", x.back(0), 1);
    }

    private static void p17UndoEachOfTheSix() {
        sentence("P17", "through(), read(), rain(), birds(), plough(), day() is undone");
        for (int i = 0; i < 6; i++) {
            HedgeReader x = lively();
            String ahead = Checks.stateOf(x);
            Runnable[] done = {() -> x.through(1), () -> x.through(0), () -> x.rain(9), () -> x.birds(), () -> x.plough(1), () -> x.day()};
            done[i].run();
            Checks.isTrue(i + " does something", !Checks.stateOf(x).equals(ahead));
            due("undo", x.undo(), 4);
            Checks.isTrue("as ahead of " + i, Checks.stateOf(x).equals(ahead));
        }
        HedgeReader x = lively();
        x.undo();
        String ahead = Checks.stateOf(x);
        due("read", x.read(), 4);
        x.undo();
        Checks.isTrue("as ahead of read()", Checks.stateOf(x).equals(ahead));
    }

    private static void p17UndoTheLastEight() {
        sentence("P17", "(the last 8 can be):");
        HedgeReader x = new HedgeReader();
        for (int i = 1; i <= 20; i++) {
            x.rain(i % 9 + 1);
            due("can be undone", x.count(12), Math.min(i, 8));
        }
        for (int i = 19; i >= 12; i--) {
            due("undo", x.undo(), i - 12);
            due("wet as it was", x.count(8), i % 9 + 1);
        }
        refused(x, "the ninth", () -> x.undo(), NOT);
        due("wet stays", x.count(8), 4);
    }

    private static void p17UndoHowManyYet() {
        sentence("P17", "how many can be undone yet.");
        HedgeReader x = new HedgeReader();
        for (int i = 0; i < 30; i++) {
            x.day();
            x.rain(1);
            x.birds();
            due("undo", x.undo(), Math.min(2 * i + 2, 7));
            due("count(12)", x.count(12), Math.min(2 * i + 2, 7));
        }
    }

    private static void p17UndoNotOfNone() {
        sentence("P17", "NOT: none.");
        HedgeReader x = five();
        refused(x, "nothing is done", () -> x.undo(), NOT);
        x.through(1);
        x.plough(9);
        x.rain(0);
        refused(x, "refused calls are not undone", () -> x.undo(), NOT);
        x.keep(0);
        x.seen(0, 0, 0);
        x.shelf(0, 0, 0);
        refused(x, "other calls are not undone", () -> x.undo(), NOT);
        x.rain(1);
        due("the only one", x.undo(), 0);
        refused(x, "nothing more", () -> x.undo(), NOT);
    }

    // ---- promises 18, 19

    private static void p18KeepAll() {
        sentence("P18", "All as it is");
        HedgeReader x = lively();
        String ahead = Checks.goingOn(x);
        refused(x, "keep(1) changes nothing", () -> x.keep(1), 1);
        x.rain(9);
        x.birds();
        x.day();
        x.through(0);
        x.read();
        x.plough(1);
        due("back", x.back(1), 1);
        Checks.isTrue("day, minute, place, read, wet, letters", Checks.goingOn(x).equals(ahead));
    }

    private static void p18KeepButSeenShelvesUndone() {
        sentence("P18", "(but SEEN, SHELVES, what can be undone) is kept");
        HedgeReader x = lively();
        x.keep(0);
        due("can be undone yet", x.count(12), 4);
        x.seen(0, 3, 14);
        x.lay(0, 0, 1, 78);
        x.drop(2);
        x.birds();
        x.back(0);
        due("seen as now", x.count(10), 2);
        due("kinds as now", x.kinds(0), 0);
        due("a shelf as now", x.look(0, 1), BASE + 78);
        due("missing as now", x.look(2, 0), NULL);
        due("nothing can be undone", x.count(12), 0);
    }

    private static void p18KeepTheDay() {
        sentence("P18", "is kept (k 0, 1): the DAY.");
        HedgeReader x = new HedgeReader();
        due("keep(0) of no fields", x.keep(0), 0);
        x.day();
        due("keep(1)", x.keep(1), 1);
        x.day();
        due("keep(0) anew", x.keep(0), 2);
        due("back(1)", x.back(1), 1);
        due("back(0)", x.back(0), 2);
    }

    private static void p18KeepUnknown() {
        sentence("P18", "UNKNOWN: no such k.");
        HedgeReader x = lively();
        for (int k : off(0, 1)) {
            refused(x, "keep(" + k + ")", () -> x.keep(k), UNKNOWN);
        }
    }

    private static void p19BackAsItWas() {
        sentence("P19", "It is as it was kept,");
        HedgeReader x = five();
        x.day();
        x.rain(2);
        x.read();
        x.through(0);
        String first = Checks.goingOn(x);
        x.keep(1);
        x.day();
        x.birds();
        String second = Checks.goingOn(x);
        x.keep(0);
        x.plough(0);
        for (int i = 0; i < 3; i++) {
            x.back(1);
            Checks.isTrue("as the first", Checks.goingOn(x).equals(first));
            x.rain(8);
            x.undo();
            x.rain(9);
            x.back(0);
            Checks.isTrue("as the second", Checks.goingOn(x).equals(second));
            x.plough(1);
        }
        x.keep(1);
        x.day();
        x.back(1);
        due("what was kept anew", x.field(1, 4), 0);
    }

    private static void p19BackNothingCanBeUndone() {
        sentence("P19", "nothing can be undone:");
        HedgeReader x = lively();
        x.back(0);
        due("count(12)", x.count(12), 0);
        refused(x, "undo", () -> x.undo(), NOT);
        String ahead = Checks.goingOn(x);
        x.birds();
        due("what is done behind it can", x.undo(), 0);
        Checks.isTrue("as it was kept", Checks.goingOn(x).equals(ahead));
    }

    private static void p19BackTheDay() {
        sentence("P19", "nothing can be undone: the DAY.");
        HedgeReader x = lively();
        x.day();
        x.day();
        due("the day that was kept", x.back(0), 1);
        due("it is that day", x.count(4), 1);
    }

    private static void p19BackUnknown() {
        sentence("P19", "UNKNOWN;");
        HedgeReader x = lively();
        for (int k : off(0, 1)) {
            refused(x, "back(" + k + ")", () -> x.back(k), UNKNOWN);
        }
    }

    private static void p19BackNotKept() {
        sentence("P19", "NOT: nothing was kept");
        HedgeReader x = lively();
        refused(x, "the other was kept", () -> x.back(1), NOT);
        HedgeReader y = five();
        refused(y, "none was", () -> y.back(0), NOT);
        y.keep(2);
        y.keep(-1);
        refused(y, "refused ones were not", () -> y.back(0), NOT);
        y.keep(1);
        refused(y, "the other was kept", () -> y.back(0), NOT);
        due("it was kept", y.back(1), 0);
        due("and stays so", y.back(1), 0);
    }

    private static void p19BackNotSinceTheLastText() {
        sentence("P19", "nothing was kept since the last text.");
        HedgeReader x = lively();
        x.keep(1);
        x.erase();
        Checks.write(x, "beech");
        x.parish();
        due("a text with a fault is not done", x.back(1), 1);
        x.erase();
        due("nor one that is erased", x.back(0), 1);
        tell(x, "dark 60");
        refused(x, "a text was done", () -> x.back(0), NOT);
        refused(x, "a text was done", () -> x.back(1), NOT);
        x.keep(0);
        due("kept since", x.back(0), 0);
        refused(x, "the other was not", () -> x.back(1), NOT);
    }
}
