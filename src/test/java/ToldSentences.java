import java.util.Collections;

/** Section 1 of the document, and promises 1 to 10: what is told. */
final class ToldSentences extends Sentences {
    // A ; behind which one more clause stands begins at the end of what stands ahead.
    private static final String TWO = "thorn 0 1 a;hazel 0 1 b";

    private ToldSentences() {
    }

    static void all() {
        fields();
        gatesAndWords();
        textsAndClauses();
        whatClausesTell();
        faults();
        behindATextAllBegins();
        newWriteErase();
        faultAndParish();
        fieldAndLetter();
        gateWordAs();
    }

    private static void fields() {
        fieldsAreSevenAtMost();
        theSeventhFieldAnswersAll();
        fieldsHaveAKind();
        fieldsHaveATale();
        fieldsHaveAChapter();
        linesHaveOneToEightLetters();
        lettersAreLeftOrGone();
    }

    private static void gatesAndWords() {
        gatesAreNineAtMost();
        theNinthGateIsGoneThrough();
        gatesAreBetweenUnlikeFields();
        gatesAreOfOneToThirtyMinutes();
        gatesGoEitherWay();
        severalGatesBetweenTwo();
        wordsAreEightAtMost();
        theEighthWordIsFound();
        wordsHaveOneToEightLetters();
        darkIsFrom10To99And60AtFirst();
    }

    private static void textsAndClauses() {
        textHas200LettersAtMost();
        clausesAreTwentyAtMost();
        clausesAreOneOfEight();
        pointsAreNotWritten();
    }

    private static void whatClausesTell() {
        parishClauseSetsAllAsAtFirst();
        fieldClauseTellsOneMore();
        eighthFieldCannotStandThere();
        gateNeedsFieldsToldAhead();
        gateOfLikeFieldsHasItsFaultAtB();
        tenthGateCannotStandThere();
        ninthWordCannotStandThere();
        lineIsARowOfSmallLetters();
        numbersHaveOneOrTwoDigitsAndBlanksBetween();
        earlierTextsStay();
    }

    private static void faults() {
        faultIsAtTheFirstToken();
        tokenIsARowOfOneSort();
        numberOutOfItsBoundsIsAFault();
        faultAtTheEndIfItComesTooSoon();
        clausesAreDoneInTheirOrder();
    }

    private static void behindATextAllBegins() {
        minute0OfDay0();
        oneStandsInField0();
        allLettersAreLeftAndNotWet();
        nothingIsReadOrSeen();
        nothingIsKeptOrUndone();
    }

    private static void newWriteErase() {
        p1NoFieldsNoShelves();
        p2Write();
        p2WriteOutside();
        p2WriteFull();
        p3Erase();
    }

    private static void faultAndParish() {
        p4FaultPlace();
        p4FaultNone();
        p5Parish();
        p5ParishNotOfAFault();
    }

    private static void fieldAndLetter() {
        p6Field();
        p6FieldBehindRain();
        p6FieldUnknown();
        p6FieldOutside();
        p7Letter();
        p7LetterUnknown();
    }

    private static void gateWordAs() {
        p8Gate();
        p8GateUnknown();
        p8GateOutside();
        p9Word();
        p9WordUnknown();
        p10As();
        p10AsUnknown();
        p10AsOutside();
        p10AsNotSuch();
    }

    private static String times(int n, String clause) {
        return String.join(";", Collections.nCopies(n, clause));
    }

    // ---- section 1

    private static void fieldsAreSevenAtMost() {
        sentence("1", "FIELDS are 0, 1 .. as they come, 7 at most (none at first)");
        HedgeReader x = new HedgeReader();
        due("fields at first", x.count(0), 0);
        due("field 0 at first", x.field(0, 2), UNKNOWN);
        for (int f = 0; f < 7; f++) {
            tell(x, "thorn 0 " + (f + 1) + " a");
            due("fields", x.count(0), f + 1);
            due("the one that came", x.field(f, 2), f + 1);
            due("the one behind", x.field(f + 1, 2), UNKNOWN);
        }
        due("the first", x.field(0, 2), 1);
        faultIs(x, "thorn 0 9 a", 0);
        due("no eighth", x.count(0), 7);
    }

    private static void theSeventhFieldAnswersAll() {
        sentence("1", "7 at most (none at first)");
        HedgeReader x = told(times(6, "hazel 0 1 aeiou"), "hazel 3 9 abcdefgo;gate 0 6 1;word abcdefgo");
        due("tale", x.field(6, 1), 3);
        due("letter", x.letter(6, 7), 14);
        due("as", x.as(6, 4), 8);
        due("far", x.far(0, 6), 1);
        due("whole", x.whole(3), 9);
        due("least", x.least(3), 1);
        due("feast", x.feast(1), 6);
        due("odds", x.odds(6, 8, 5, 1), 8);
        due("through", x.through(0), 6);
        due("read", x.read(), 8);
        due("read fields", x.count(7), 64);
        due("birds", x.birds(), 6 * 5 + 3);
        due("rain", x.rain(1), 1);
        due("could", x.could(6, 0), 1);
        due("which", x.which(6, 0), 0);
        due("plough", x.plough(6), 4);
        due("seen", x.seen(6, 8, 8), 1);
        due("kinds", x.kinds(6), 8);
        due("undo", x.undo(), 4);
        due("left", x.field(6, 5), 0b01101100);
    }

    private static void fieldsHaveAKind() {
        sentence("1", "each with a HEDGE: of a KIND, 0 THORN, 1 HOLLY, 2 BRAMBLE, 3 HAZEL");
        HedgeReader x = told("thorn 0 1 a;holly 0 1 a;bramble 0 1 a;hazel 0 1 a");
        for (int f = 0; f < 4; f++) {
            due("kind", x.field(f, 0), f);
        }
    }

    private static void fieldsHaveATale() {
        sentence("1", "of a TALE (0 .. 3)");
        HedgeReader x = told("thorn 0 1 a;holly 1 1 a;bramble 2 1 a;hazel 3 1 a");
        for (int f = 0; f < 4; f++) {
            due("tale", x.field(f, 1), f);
            due("whole", x.whole(f) == UNKNOWN ? 1 : 0, 0);
        }
        faultIs(x, "thorn 4 1 a", 6);
        faultIs(x, "hazel 99 1 a", 6);
        due("tale above", x.whole(4), UNKNOWN);
        due("tale below", x.whole(-1), UNKNOWN);
    }

    private static void fieldsHaveAChapter() {
        sentence("1", "a CHAPTER (1 .. 9) of it");
        HedgeReader x = told("thorn 0 1 a;holly 1 9 a");
        due("least chapter", x.field(0, 2), 1);
        due("most chapter", x.field(1, 2), 9);
        faultIs(x, "thorn 0 0 a", 8);
        faultIs(x, "bramble 0 00 a", 10);
        faultIs(x, "thorn 0 10 a", 8);
    }

    private static void linesHaveOneToEightLetters() {
        sentence("1", "with a LINE of 1 to 8 LETTERS a .. z (places 0 .. 7)");
        HedgeReader x = told("thorn 0 1 a;holly 1 9 abcdefgz");
        due("one letter", x.field(0, 3), 1);
        due("its place", x.letter(0, 0), 0);
        due("no place 1", x.letter(0, 1), UNKNOWN);
        due("eight letters", x.field(1, 3), 8);
        due("place 7", x.letter(1, 7), 25);
        due("no place 8", x.letter(1, 8), UNKNOWN);
        faultIs(x, "thorn 0 1", 9);
        faultIs(x, "thorn 0 1 abcdefghi", 10);
        faultIs(x, "thorn 0 1 " + (char) ('a' - 1), 10);
        faultIs(x, "thorn 0 1 " + (char) ('z' + 1), 10);
        faultIs(x, "thorn 0 1 A", 10);
    }

    private static void lettersAreLeftOrGone() {
        sentence("1", "each of which is LEFT or GONE.");
        HedgeReader x = told("thorn 0 1 abc");
        x.rain(1);
        due("left", x.letter(0, 1), 1);
        due("gone", x.letter(0, 2), NONE);
        due("as many letters as ever", x.field(0, 3), 3);
    }

    private static void gatesAreNineAtMost() {
        sentence("1", "GATES are 0, 1 .., 9 at most:");
        HedgeReader x = told(TWO);
        due("gates at first", x.count(1), 0);
        due("gate 0 at first", x.gate(0, 2), UNKNOWN);
        for (int g = 0; g < 9; g++) {
            tell(x, "gate 0 1 " + (g + 1));
            due("gates", x.count(1), g + 1);
            due("the one that came", x.gate(g, 2), g + 1);
            due("the one behind", x.gate(g + 1, 2), UNKNOWN);
        }
        faultIs(x, "gate 0 1 10", 0);
        due("no tenth", x.count(1), 9);
    }

    private static void theNinthGateIsGoneThrough() {
        sentence("1", "9 at most:");
        HedgeReader x = told("thorn 0 1 a;thorn 0 1 a;thorn 3 1 a", times(8, "gate 0 1 1"), "gate 2 1 7");
        due("least", x.least(3), 0b100000001);
        due("far", x.far(0, 2), 8);
        x.through(7);
        due("through the ninth", x.through(8), 2);
        due("minute", x.count(5), 8);
        due("no tenth", x.through(9), UNKNOWN);
    }

    private static void gatesAreBetweenUnlikeFields() {
        sentence("1", "between two unlike FIELDS,");
        HedgeReader x = told(TWO);
        noFault(x, "gate 0 1 5", "gate 1 0 5");
        faultIs(x, "gate 0 0 5", 7);
        faultIs(x, "gate 1 1 5", 7);
        faultIs(x, "gate 1 01 5", 7);
        faultIs(x, "gate 00 0 5", 8);
    }

    private static void gatesAreOfOneToThirtyMinutes() {
        sentence("1", "a way of 1 .. 30 MINUTES,");
        HedgeReader x = told(TWO, "gate 0 1 1;gate 0 1 30");
        due("least", x.gate(0, 2), 1);
        due("most", x.gate(1, 2), 30);
        faultIs(x, "gate 0 1 0", 9);
        faultIs(x, "gate 0 1 31", 9);
    }

    private static void gatesGoEitherWay() {
        sentence("1", "either way");
        HedgeReader x = told(TWO, "gate 1 0 7");
        due("from 0", x.through(0), 1);
        due("from 1", x.through(0), 0);
        due("minutes", x.count(5), 14);
        due("far", x.far(0, 1), 7);
        due("far", x.far(1, 0), 7);
    }

    private static void severalGatesBetweenTwo() {
        sentence("1", "(several between two perhaps)");
        HedgeReader x = told(TWO, "gate 0 1 9;gate 1 0 4;gate 0 1 9;gate 0 1 6");
        due("gates", x.count(1), 4);
        due("the shortest way", x.far(0, 1), 4);
        due("the shortest way", x.far(1, 0), 4);
        due("through one", x.through(0), 1);
        due("through another", x.through(2), 0);
        due("minutes", x.count(5), 18);
    }

    private static void wordsAreEightAtMost() {
        sentence("1", "THE LEXICON has WORDS 0, 1 .., 8 at most,");
        HedgeReader x = new HedgeReader();
        due("words at first", x.count(2), 0);
        due("word 0 at first", x.word(0, NONE), UNKNOWN);
        for (int w = 0; w < 8; w++) {
            tell(x, "word " + (char) ('a' + w));
            due("words", x.count(2), w + 1);
            due("the one that came", x.word(w, 0), w);
            due("the one behind", x.word(w + 1, 0), UNKNOWN);
        }
        faultIs(x, "word z", 0);
        due("no ninth", x.count(2), 8);
    }

    private static void theEighthWordIsFound() {
        sentence("1", "8 at most, of 1 to 8 LETTERS.");
        HedgeReader x = told("thorn 0 1 ab", times(7, "word ac"), "word ab");
        due("could", x.could(0, 0), 0b10000000);
        x.rain(1);
        due("all eight", x.could(0, 0), 255);
        due("seven alike", x.which(0, 0), 1);
        x.plough(0);
        due("eight alike at 0, seven at 1", x.which(0, 0), 1);
        HedgeReader y = told("thorn 0 1 ab", times(8, "word ab"));
        y.plough(0);
        due("eight alike at both", y.which(0, 0), 0);
    }

    private static void wordsHaveOneToEightLetters() {
        sentence("1", "of 1 to 8 LETTERS.");
        HedgeReader x = told("word q;word abcdefgh");
        due("one letter", x.word(0, NONE), 1);
        due("eight letters", x.word(1, NONE), 8);
        due("the last", x.word(1, 7), 7);
        faultIs(x, "word", 4);
        faultIs(x, "word abcdefghi", 5);
    }

    private static void darkIsFrom10To99And60AtFirst() {
        sentence("1", "It is DARK at a MINUTE (10 .. 99; 60 at first).");
        HedgeReader x = new HedgeReader();
        due("at first", x.count(3), 60);
        tell(x, "dark 10");
        due("least", x.count(3), 10);
        tell(x, "dark 99");
        due("most", x.count(3), 99);
        faultIs(x, "dark 9", 5);
        faultIs(x, "dark 09", 5);
        faultIs(x, "dark 100", 5);
    }

    private static void textHas200LettersAtMost() {
        sentence("1", "THE TEXT is a row of letters, 200 at most:");
        HedgeReader x = new HedgeReader();
        Checks.write(x, "dark 10" + " ".repeat(193));
        due("letters", x.count(13), 200);
        due("one more", x.write(' '), FULL);
        due("no fault", x.fault(), NONE);
        due("done", x.parish(), 1);
        faultIs(x, "dark 10;" + " ".repeat(192), 200);
        faultIs(x, " ".repeat(200), 200);
        faultIs(x, "a".repeat(200), 0);
        faultIs(x, " ".repeat(199) + "a", 199);
    }

    private static void clausesAreTwentyAtMost() {
        sentence("1", "CLAUSES with ; between, 20 at most;");
        HedgeReader x = new HedgeReader();
        noFault(x, "dark 10;dark 11", "dark 10 ; dark 11", times(20, "dark 10"), times(20, "parish") + "   ");
        faultIs(x, "dark 10 dark 11", 8);
        faultIs(x, ";dark 10", 0);
        faultIs(x, "dark 10;;dark 11", 8);
        faultIs(x, "dark 10:dark 11", 7);
        // As NOTES.md reads it: a ; cannot stand behind the twentieth.
        faultIs(x, times(21, "dark 10"), 159);
        faultIs(x, times(20, "dark 10") + ";", 159);
        Checks.write(x, times(20, "dark 10"));
        due("twenty are done", x.parish(), 20);
        Checks.write(x, times(21, "dark 20"));
        due("twenty-one are not", x.parish(), NOT);
    }

    private static void clausesAreOneOfEight() {
        sentence("1", "each is one of: parish. thorn T C LINE. holly T C LINE. bramble T C LINE. hazel T C LINE. "
            + "gate A B M. word LINE. dark N.");
        HedgeReader x = told(TWO);
        String[] forms = {"parish", "thorn 0 1 a", "holly 3 9 abcdefgh", "bramble 2 5 dark", "hazel 1 2 hazel",
            "gate 0 1 30", "word word", "dark 99"};
        for (String form : forms) {
            eachLetterOf(x, form.split(" ")[0], form);
            noFault(x, form);
            faultIs(x, form + " a", form.length() + 1);
            faultIs(x, form + " 7", form.length() + 1);
            faultIs(x, form + " ?", form.length() + 1);
            eachTokenOf(x, form.split(" "));
        }
        String[] others = {"hedge", "beech", "paris", "parishes", "thorns", "gat", "lexicon", "a", "7", "?"};
        for (String other : others) {
            faultIs(x, other + " 0 1 a", 0);
        }
    }

    /** Each letter of a CLAUSE's word is another one, is not there, or is there twice. */
    private static void eachLetterOf(HedgeReader x, String word, String form) {
        for (int i = 0; i < word.length(); i++) {
            String other = word.charAt(i) == 'q' ? "x" : "q";
            faultIs(x, form.substring(0, i) + other + form.substring(i + 1), 0);
            faultIs(x, form.substring(0, i) + form.substring(i + 1), 0);
            faultIs(x, form.substring(0, i + 1) + form.substring(i), 0);
        }
    }

    /** Each TOKEN is not there, or is of another sort. */
    private static void eachTokenOf(HedgeReader x, String[] tokens) {
        String ahead = "";
        for (int t = 0; t < tokens.length; t++) {
            String other = Character.isDigit(tokens[t].charAt(0)) ? "x" : "7";
            faultIs(x, ahead.trim(), ahead.trim().length());
            faultIs(x, ahead + other, ahead.length());
            faultIs(x, ahead + "?", ahead.length());
            faultIs(x, ahead + ";", ahead.length());
            ahead += tokens[t] + " ";
        }
    }

    private static void pointsAreNotWritten() {
        sentence("1", "(As written here, without points;");
        HedgeReader x = told(TWO);
        faultIs(x, "parish.", 6);
        faultIs(x, "dark 10.", 7);
        faultIs(x, "word a.", 6);
        faultIs(x, "gate 0 1 5. dark 10", 10);
    }

    private static void parishClauseSetsAllAsAtFirst() {
        sentence("1", "parish: all as at first;");
        HedgeReader x = five();
        tell(x, "dark 99");
        tell(x, "parish");
        Checks.isTrue("all as at first", Checks.stateOf(x).equals(Checks.stateOf(new HedgeReader())));
        x = five();
        tell(x, "dark 99;gate 0 4 1;word a;parish;hazel 2 2 xyz");
        due("fields", x.count(0), 1);
        due("the field behind it", x.field(0, 0), 3);
        due("gates", x.count(1), 0);
        due("words", x.count(2), 0);
        due("dark", x.count(3), 60);
        x = told(times(7, "thorn 0 1 a"), times(9, "gate 0 1 1"), times(8, "word a"));
        noFault(x, "parish;" + times(7, "hazel 0 1 b"), "parish;" + times(8, "word a"),
            "parish;" + TWO + ";" + times(9, "gate 0 1 1"));
        faultIs(x, "parish;gate 0 1 1", 12);
        faultIs(x, "parish;" + times(8, "hazel 0 1 b"), 91);
    }

    private static void fieldClauseTellsOneMore() {
        sentence("1", "thorn ..: a FIELD more, all its LETTERS LEFT,");
        HedgeReader x = told("thorn 1 2 eoeo");
        x.birds();
        tell(x, "holly 2 3 eoeoe;bramble 3 4 ab;hazel 0 5 aeiou");
        int[] sizes = {4, 5, 2, 5};
        due("fields", x.count(0), 4);
        for (int f = 0; f < 4; f++) {
            due("kind", x.field(f, 0), f);
            due("letters left", x.field(f, 4), sizes[f]);
            due("at all places", x.field(f, 5), (1 << sizes[f]) - 1);
        }
    }

    private static void eighthFieldCannotStandThere() {
        sentence("1", "an eighth cannot stand there (at its word);");
        HedgeReader x = new HedgeReader();
        faultIs(x, times(7, "thorn 0 1 a"), NONE);
        faultIs(x, times(7, "thorn 0 1 a") + "; hazel 0 1 a", 85);
        tell(x, times(6, "thorn 0 1 a"));
        noFault(x, "holly 0 1 a");
        faultIs(x, "holly 0 1 a;bramble", 12);
        tell(x, "bramble 0 1 a");
        String[] words = {"thorn", "holly", "bramble", "hazel"};
        for (String word : words) {
            faultIs(x, word + " 0 1 a", 0);
            faultIs(x, "dark 20;  " + word + " 9 9 9", 10);
        }
    }

    private static void gateNeedsFieldsToldAhead() {
        sentence("1", "gate: one more, between FIELDS A and B told ahead");
        HedgeReader x = new HedgeReader();
        faultIs(x, "gate 0 1 1", 5);
        faultIs(x, "gate 0 1 1;" + TWO, 5);
        faultIs(x, "thorn 0 1 a;gate 0 1 1;hazel 0 1 b", 19);
        faultIs(x, "thorn 0 1 a;gate 1 0 1;hazel 0 1 b", 17);
        noFault(x, TWO + ";gate 0 1 1", TWO + ";gate 1 0 1");
        faultIs(x, TWO + ";gate 2 0 1", 29);
        faultIs(x, TWO + ";gate 0 2 1", 31);
        tell(x, times(7, "thorn 0 1 a"));
        noFault(x, "gate 6 5 1", "gate 5 6 1", "gate 06 00 01");
        faultIs(x, "gate 7 6 1", 5);
        faultIs(x, "gate 6 7 1", 7);
        tell(x, "gate 6 5 3");
        due("one more", x.count(1), 1);
        due("between A", x.gate(0, 0), 6);
        due("and B", x.gate(0, 1), 5);
    }

    private static void gateOfLikeFieldsHasItsFaultAtB() {
        sentence("1", "(B like A: the FAULT is at the B),");
        HedgeReader x = new HedgeReader();
        faultIs(x, "thorn 0 1 a;gate 0 0 1", 19);
        faultIs(x, "thorn 0 1 a;gate 0  0 99", 20);
        faultIs(x, TWO + ";gate 1 1", 31);
        faultIs(x, TWO + ";gate 2 2 1", 29);
    }

    private static void tenthGateCannotStandThere() {
        sentence("1", "a tenth cannot;");
        HedgeReader x = told(TWO);
        noFault(x, times(9, "gate 0 1 1"));
        faultIs(x, times(10, "gate 0 1 1"), 99);
        tell(x, times(8, "gate 0 1 1"));
        noFault(x, "gate 0 1 1");
        faultIs(x, "gate 0 1 1; gate 0 1 1", 12);
        tell(x, "gate 1 0 2");
        faultIs(x, "gate 0 1 1", 0);
        faultIs(x, "gate 9 9 9", 0);
    }

    private static void ninthWordCannotStandThere() {
        sentence("1", "word: one more in THE LEXICON, a ninth cannot;");
        HedgeReader x = new HedgeReader();
        noFault(x, times(8, "word a"));
        faultIs(x, times(9, "word a"), 56);
        tell(x, times(7, "word a"));
        due("words", x.count(2), 7);
        noFault(x, "word a");
        faultIs(x, "word a; word a", 8);
        tell(x, "word b");
        faultIs(x, "word a", 0);
        faultIs(x, "word 7", 0);
    }

    private static void lineIsARowOfSmallLetters() {
        sentence("1", "LINE: a row of 1 to 8 small letters;");
        HedgeReader x = new HedgeReader();
        noFault(x, "word a", "word z", "word abcdefgh", "word parish", "thorn 0 1 thorn");
        faultIs(x, "word abcdefghi", 5);
        faultIs(x, "word " + "a".repeat(195), 5);
        faultIs(x, "word aB", 6);
        faultIs(x, "word B", 5);
        faultIs(x, "word a b", 7);
        faultIs(x, "word 1", 5);
        faultIs(x, "hazel 0 1 abcdefghi", 10);
    }

    private static void numbersHaveOneOrTwoDigitsAndBlanksBetween() {
        sentence("1", "small letters a .. z, numbers of 1 or 2 digits, blanks between;");
        HedgeReader x = told(TWO);
        noFault(x, "gate 0 1 1", "gate 00 01 01", "  gate   0  1   1  ", " dark 10 ;  parish ", "gate0 1 1;dark10;hazel0 1a");
        faultIs(x, "gate 0 1 001", 9);
        faultIs(x, "gate 000 1 1", 5);
        faultIs(x, "dark 010", 5);
        faultIs(x, "dark 1 0", 5);
        faultIs(x, "da rk 10", 0);
        faultIs(x, "dark\t10", 4);
        faultIs(x, "dark\n10", 4);
        faultIs(x, "dark -10", 5);
        faultIs(x, "dark 10" + (char) 160, 7);
    }

    private static void earlierTextsStay() {
        sentence("1", "what earlier texts told stays.)");
        HedgeReader x = told("thorn 0 1 ab");
        tell(x, "hazel 1 2 cd");
        tell(x, "gate 0 1 5");
        tell(x, "word ab");
        tell(x, "dark 33");
        tell(x, "word cd;gate 1 0 6");
        due("fields", x.count(0), 2);
        due("the first text's", x.letter(0, 1), 1);
        due("the second text's", x.letter(1, 1), 3);
        due("gates", x.count(1), 2);
        due("the third text's", x.gate(0, 2), 5);
        due("words", x.count(2), 2);
        due("the fourth text's", x.word(0, 1), 1);
        due("dark", x.count(3), 33);
        due("far", x.far(0, 1), 5);
    }

    private static void faultIsAtTheFirstToken() {
        sentence("1", "A FAULT is at the first TOKEN");
        HedgeReader x = told(TWO);
        faultIs(x, "thorn 4 0 abcdefghi", 6);
        faultIs(x, "thorn 3 0 abcdefghi", 8);
        faultIs(x, "thorn 3 9 abcdefghi", 10);
        faultIs(x, "gate 2 2 31", 5);
        faultIs(x, "gate 1 2 31", 7);
        faultIs(x, "gate 1 0 31", 9);
        faultIs(x, "gate 1 0 30;dark 9;word 8", 17);
        faultIs(x, "dark 9;beech", 5);
    }

    private static void tokenIsARowOfOneSort() {
        sentence("1", "(a row of small letters, a row of digits, any other letter) that cannot stand there");
        HedgeReader x = new HedgeReader();
        for (int c = 0; c <= 255; c++) {
            boolean small = c >= 'a' && c <= 'z';
            boolean digit = c >= '0' && c <= '9';
            faultIs(x, (char) c + "parish", c == ' ' ? NONE : 0);
            faultIs(x, "parish" + (char) c, c == ' ' ? NONE : c == ';' ? 7 : small ? 0 : 6);
            faultIs(x, "word a" + (char) c, c == ' ' || small ? NONE : c == ';' ? 7 : 6);
            faultIs(x, "dark 1" + (char) c, digit ? NONE : 5);
            faultIs(x, "dark 10" + (char) c, c == ' ' ? NONE : c == ';' ? 8 : digit ? 5 : 7);
        }
        faultIs(x, "parish??", 6);
        faultIs(x, "parish ?7a", 7);
    }

    private static void numberOutOfItsBoundsIsAFault() {
        sentence("1", "(a number out of its bounds, of more digits, a LINE of more than 8 letters, also),");
        HedgeReader x = told(TWO);
        noFault(x, "thorn 3 9 abcdefgh", "thorn 0 1 a", "dark 10", "dark 99", "gate 0 1 1", "gate 1 0 30");
        faultIs(x, "thorn 4 9 a", 6);
        faultIs(x, "thorn 3 0 a", 8);
        faultIs(x, "thorn 3 10 a", 8);
        faultIs(x, "dark 9", 5);
        faultIs(x, "dark 100", 5);
        faultIs(x, "gate 0 1 0", 9);
        faultIs(x, "gate 0 1 31", 9);
        faultIs(x, "thorn 000 1 a", 6);
        faultIs(x, "thorn 0 001 a", 8);
        faultIs(x, "dark 4294967356", 5);
        faultIs(x, "gate 0 4294967297 1", 7);
        faultIs(x, "dark " + "0".repeat(193) + "60", 5);
        faultIs(x, "thorn 0 1 abcdefghi", 10);
    }

    private static void faultAtTheEndIfItComesTooSoon() {
        sentence("1", "or at the end, if it comes too soon.");
        HedgeReader x = told(TWO);
        String[] early = {"", " ", "thorn", "thorn 0", "thorn 0 1", "holly", "bramble 3 9 ", "hazel", "gate", "gate 0",
            "gate 0 1", "gate 0 1  ", "word", "dark", "parish;", "parish ; ", "dark 10;word a;"};
        for (String text : early) {
            faultIs(x, text, text.length());
        }
    }

    private static void clausesAreDoneInTheirOrder() {
        sentence("1", "CLAUSES are done in their order.");
        HedgeReader x = told("dark 20;dark 30;dark 25");
        due("the last dark", x.count(3), 25);
        tell(x, "thorn 0 1 a;parish;hazel 1 2 b;thorn 3 4 c;gate 1 0 9;gate 0 1 8");
        due("fields behind the parish", x.count(0), 2);
        due("the first of them", x.field(0, 0), 3);
        due("the second", x.field(1, 1), 3);
        due("the first gate", x.gate(0, 2), 9);
        due("the second", x.gate(1, 2), 8);
        tell(x, "dark 50;parish");
        due("dark ahead of the parish", x.count(3), 60);
        tell(x, "parish;dark 50");
        due("dark behind the parish", x.count(3), 50);
    }

    private static void minute0OfDay0() {
        sentence("1", "Behind them it is MINUTE 0 of DAY 0,");
        HedgeReader x = lively();
        due("minute ahead", x.count(5), 13);
        due("day ahead", x.count(4), 1);
        x.parish();
        due("minute", x.count(5), 0);
        due("day", x.count(4), 0);
    }

    private static void oneStandsInField0() {
        sentence("1", "one stands in FIELD 0,");
        HedgeReader x = lively();
        due("ahead", x.count(6), 1);
        x.parish();
        due("behind", x.count(6), 0);
        tell(x, "parish");
        due("there is none", x.count(6), NONE);
        tell(x, "thorn 0 1 a");
        due("there is one", x.count(6), 0);
    }

    private static void allLettersAreLeftAndNotWet() {
        sentence("1", "all LETTERS are LEFT, it is not WET,");
        HedgeReader x = lively();
        due("letters ahead", x.count(9), 24 - 4 - 1 - 4 - 4);
        due("wet ahead", x.count(8), 4);
        x.parish();
        due("letters", x.count(9), 24);
        due("wet", x.count(8), 0);
        due("places", x.field(3, 5), 31);
    }

    private static void nothingIsReadOrSeen() {
        sentence("1", "nothing is READ, SEEN,");
        HedgeReader x = lively();
        due("read ahead", x.count(7), 2);
        due("seen ahead", x.count(10), 1);
        due("kinds ahead", x.kinds(0), 3);
        x.parish();
        due("read", x.count(7), 0);
        due("is read", x.field(1, 7), 0);
        due("seen", x.count(10), 0);
        due("kinds", x.kinds(0), 15);
    }

    private static void nothingIsKeptOrUndone() {
        sentence("1", "nothing is kept or can be undone.");
        HedgeReader x = lively();
        x.keep(1);
        due("undone ahead", x.count(12), 4);
        x.parish();
        due("undone", x.count(12), 0);
        refused(x, "undo", () -> x.undo(), NOT);
        refused(x, "back(0)", () -> x.back(0), NOT);
        refused(x, "back(1)", () -> x.back(1), NOT);
        x.day();
        due("one can be undone", x.undo(), 0);
        due("shelves are no matter of texts", x.look(0, 1), BASE + 77);
    }

    // ---- promises 1 to 5

    private static void p1NoFieldsNoShelves() {
        sentence("P1", "No fields, no shelves.");
        HedgeReader x = new HedgeReader();
        for (int what = 0; what <= 13; what++) {
            due("count(" + what + ")", x.count(what), what == 3 ? 60 : what == 6 ? NONE : 0);
        }
        for (int s = 0; s < 4; s++) {
            due("look", x.look(s, 0), NULL);
            due("field", x.field(s, 0), UNKNOWN);
        }
        due("undo", x.undo(), NOT);
        due("back", x.back(0), NOT);
        due("back", x.back(1), NOT);
        int[] constants = {HedgeReader.NONE, HedgeReader.UNKNOWN, HedgeReader.OUTSIDE, HedgeReader.NOT, HedgeReader.FULL,
            HedgeReader.NULL, HedgeReader.CAST, HedgeReader.INDEX, HedgeReader.SIZE, HedgeReader.STORE};
        int[] values = {NONE, UNKNOWN, OUTSIDE, NOT, FULL, NULL, CAST, INDEX, SIZE, STORE};
        for (int c = 0; c < values.length; c++) {
            due("constant " + c, constants[c], values[c]);
        }
    }

    private static void p2Write() {
        sentence("P2", "A letter (its number, 0 .. 255) more of THE TEXT: how many it has.");
        HedgeReader x = new HedgeReader();
        due("least", x.write(0), 1);
        due("most", x.write(255), 2);
        for (int i = 3; i <= 200; i++) {
            due("write", x.write('a' + i % 26), i);
        }
        due("count(13)", x.count(13), 200);
    }

    private static void p2WriteOutside() {
        sentence("P2", "OUTSIDE;");
        HedgeReader x = new HedgeReader();
        for (int letter : off(0, 255)) {
            refused(x, "write(" + letter + ")", () -> x.write(letter), OUTSIDE);
        }
        x.write('a');
        refused(x, "write(256)", () -> x.write(256), OUTSIDE);
    }

    private static void p2WriteFull() {
        sentence("P2", "FULL.");
        HedgeReader x = new HedgeReader();
        Checks.write(x, "b".repeat(199));
        due("the last", x.write('b'), 200);
        refused(x, "one more", () -> x.write('b'), FULL);
        refused(x, "a blank more", () -> x.write(' '), FULL);
        x.erase();
        due("room again", x.write('b'), 1);
    }

    private static void p3Erase() {
        sentence("P3", "THE TEXT is empty: how many letters it had.");
        HedgeReader x = lively();
        due("some", x.erase(), 7);
        due("none", x.erase(), 0);
        due("empty", x.count(13), 0);
        due("the end comes too soon", x.fault(), 0);
        due("fields stay", x.count(0), 5);
        Checks.write(x, "c".repeat(200));
        due("all", x.erase(), 200);
        due("the first again", x.write('c'), 1);
        due("only it", x.erase(), 1);
    }

    private static void p4FaultPlace() {
        sentence("P4", "The place of the FAULT (the letter with which the TOKEN begins, or the length);");
        HedgeReader x = new HedgeReader();
        due("empty", x.fault(), 0);
        faultIs(x, "beech", 0);
        faultIs(x, "   beech", 3);
        faultIs(x, "dark    123456", 8);
        faultIs(x, "dark", 4);
        faultIs(x, "dark   ", 7);
        Checks.write(x, "word abcdefghijkl");
        refused(x, "fault twice", () -> x.fault() * 100 + x.fault(), 505);
    }

    private static void p4FaultNone() {
        sentence("P4", "NONE.");
        HedgeReader x = new HedgeReader();
        Checks.write(x, "parish");
        due("none", x.fault(), NONE);
        due("none again", x.fault(), NONE);
        due("the text stays", x.count(13), 6);
        x.write('e');
        due("some", x.fault(), 0);
    }

    private static void p5Parish() {
        sentence("P5", "THE TEXT's CLAUSES are done, and it is empty then: how many there were.");
        HedgeReader x = new HedgeReader();
        Checks.write(x, "dark 70");
        due("one", x.parish(), 1);
        due("done", x.count(3), 70);
        due("empty", x.count(13), 0);
        Checks.write(x, " thorn 0 1 a ; gate 0 1 2 ");
        x.erase();
        Checks.write(x, "thorn 0 1 a;word e;dark 71");
        due("three", x.parish(), 3);
        due("empty", x.erase(), 0);
        Checks.write(x, times(20, "parish"));
        due("twenty", x.parish(), 20);
        due("done", x.count(3), 60);
    }

    private static void p5ParishNotOfAFault() {
        sentence("P5", "NOT: it has a FAULT.");
        HedgeReader x = lively();
        x.erase();
        refused(x, "parish of nothing", () -> x.parish(), NOT);
        Checks.write(x, "dark 71;word q;thorn 0 1 abc;parish;beech");
        refused(x, "parish", () -> x.parish(), NOT);
        due("its letters stay", x.count(13), 41);
        due("what is kept stays", x.back(0), 1);
        x.erase();
        Checks.write(x, "dark 71;thorn");
        refused(x, "parish", () -> x.parish(), NOT);
        Checks.write(x, " 0 1 abc");
        due("without the fault", x.parish(), 2);
        due("dark", x.count(3), 71);
        due("fields", x.count(0), 6);
    }

    // ---- promises 6 to 10

    private static void p6Field() {
        sentence("P6", "Of a FIELD: KIND (what 0), TALE (1), CHAPTER (2), how many LETTERS its LINE has (3), are LEFT (4), "
            + "at which places (5, bits), MINUTES that READING takes (6), 1 it is READ, 0 (7).");
        HedgeReader x = five();
        int[][] want = {
            {0, 0, 2, 6, 6, 63, 13, 0}, {1, 0, 1, 4, 4, 15, 9, 0}, {2, 1, 1, 5, 5, 31, 22, 0},
            {3, 1, 3, 5, 5, 31, 5, 0}, {0, 2, 1, 4, 4, 15, 9, 0}};
        for (int f = 0; f < 5; f++) {
            for (int what = 0; what < 8; what++) {
                due("field(" + f + ", " + what + ")", x.field(f, what), want[f][what]);
            }
        }
    }

    private static void p6FieldBehindRain() {
        sentence("P6", "how many LETTERS its LINE has (3), are LEFT (4), at which places (5, bits), "
            + "MINUTES that READING takes (6), 1 it is READ, 0 (7).");
        HedgeReader x = five();
        x.read();
        x.rain(4);
        int[] thorn = {0, 0, 2, 6, 2, 3, 5, 1};
        int[] hazel = {3, 1, 3, 5, 1, 16, 1, 0};
        for (int what = 0; what < 8; what++) {
            due("thorn, " + what, x.field(0, what), thorn[what]);
            due("hazel, " + what, x.field(3, what), hazel[what]);
        }
        x.rain(9);
        due("thorn of nothing", x.field(0, 6), 1);
        due("bramble of nothing", x.field(2, 6), 2);
        due("hazel of nothing", x.field(3, 6), 0);
        due("holly too wet", x.field(1, 6), 9);
        x.day();
        due("not read on this day", x.field(0, 7), 0);
    }

    private static void p6FieldUnknown() {
        sentence("P6", "UNKNOWN;");
        HedgeReader x = five();
        for (int field : off(0, 4)) {
            refused(x, "field(" + field + ", 0)", () -> x.field(field, 0), UNKNOWN);
        }
        due("none at all", new HedgeReader().field(0, 7), UNKNOWN);
        tell(x, "parish;thorn 0 1 a");
        due("no more", x.field(1, 0), UNKNOWN);
    }

    private static void p6FieldOutside() {
        sentence("P6", "OUTSIDE.");
        HedgeReader x = five();
        for (int what : off(0, 7)) {
            refused(x, "field(0, " + what + ")", () -> x.field(0, what), OUTSIDE);
        }
    }

    private static void p7Letter() {
        sentence("P7", "A LETTER of a FIELD's LINE (0 .. 25); NONE: it is GONE.");
        HedgeReader x = told("thorn 0 1 abcdefgh;bramble 0 1 ijklmnop;hazel 0 1 qrstuvwx;thorn 0 1 yz");
        for (int c = 0; c < 26; c++) {
            due("letter " + c, x.letter(c / 8, c % 8), c);
        }
        x.rain(1);
        due("thorn's last", x.letter(0, 7), NONE);
        due("the one ahead", x.letter(0, 6), 6);
        due("hazel's first", x.letter(2, 0), NONE);
        due("the one behind", x.letter(2, 1), 17);
        x.plough(1);
        for (int p = 0; p < 8; p++) {
            due("ploughed", x.letter(1, p), NONE);
        }
    }

    private static void p7LetterUnknown() {
        sentence("P7", "UNKNOWN (no such place of it, too).");
        HedgeReader x = five();
        for (int place : off(0, 5)) {
            refused(x, "letter(0, " + place + ")", () -> x.letter(0, place), UNKNOWN);
        }
        due("place 5", x.letter(0, 5), 17);
        due("place 4 of a line of 4", x.letter(1, 4), UNKNOWN);
        for (int field : off(0, 4)) {
            refused(x, "letter(" + field + ", 0)", () -> x.letter(field, 0), UNKNOWN);
        }
        x.plough(0);
        due("no such place, though all are gone", x.letter(0, 6), UNKNOWN);
    }

    private static void p8Gate() {
        sentence("P8", "Of a GATE: the FIELDS (what 0, 1, as told), MINUTES (2).");
        HedgeReader x = five();
        int[][] want = {{0, 1, 4}, {1, 2, 6}, {0, 2, 15}, {2, 3, 5}, {3, 2, 3}};
        for (int g = 0; g < 5; g++) {
            for (int what = 0; what < 3; what++) {
                due("gate(" + g + ", " + what + ")", x.gate(g, what), want[g][what]);
            }
        }
    }

    private static void p8GateUnknown() {
        sentence("P8", "UNKNOWN;");
        HedgeReader x = five();
        for (int gate : off(0, 4)) {
            refused(x, "gate(" + gate + ", 0)", () -> x.gate(gate, 0), UNKNOWN);
        }
        due("none at all", told(TWO).gate(0, 0), UNKNOWN);
    }

    private static void p8GateOutside() {
        sentence("P8", "OUTSIDE.");
        HedgeReader x = five();
        for (int what : off(0, 2)) {
            refused(x, "gate(0, " + what + ")", () -> x.gate(0, what), OUTSIDE);
        }
    }

    private static void p9Word() {
        sentence("P9", "Of a WORD of THE LEXICON: how many LETTERS (place NONE), the one at a place (0 .. 25).");
        HedgeReader x = told("word abcdefgh;word ijklmnop;word qrstuvwx;word yz;word a");
        for (int c = 0; c < 26; c++) {
            due("letter " + c, x.word(c / 8, c % 8), c);
        }
        int[] sizes = {8, 8, 8, 2, 1};
        for (int w = 0; w < 5; w++) {
            due("size", x.word(w, NONE), sizes[w]);
        }
    }

    private static void p9WordUnknown() {
        sentence("P9", "UNKNOWN (no such place of it, too).");
        HedgeReader x = five();
        for (int word : off(0, 6)) {
            refused(x, "word(" + word + ", 0)", () -> x.word(word, 0), UNKNOWN);
            due("word(" + word + ", NONE)", x.word(word, NONE), UNKNOWN);
        }
        due("the last place", x.word(3, 3), 12);
        for (int place : new int[] {4, 8, -2, -11, LEAST_INT, MOST_INT}) {
            refused(x, "word(3, " + place + ")", () -> x.word(3, place), UNKNOWN);
        }
        due("none at all", new HedgeReader().word(0, NONE), UNKNOWN);
    }

    private static void p10As() {
        sentence("P10", "A HEDGE taken as a KIND (0 .. 4, as they are over one another): "
            + "MINUTES that READING it would take, were 8 LETTERS LEFT.");
        HedgeReader x = five();
        x.rain(9);
        int[][] want = {{17, 17, NOT, NOT, NOT}, {17, 17, 17, NOT, NOT}, {34, 34, NOT, 34, NOT}, {8, NOT, NOT, NOT, 8}};
        for (int f = 0; f < 4; f++) {
            for (int kind = 0; kind < 5; kind++) {
                due("as(" + f + ", " + kind + ")", x.as(f, kind), want[f][kind]);
            }
        }
    }

    private static void p10AsUnknown() {
        sentence("P10", "UNKNOWN;");
        HedgeReader x = five();
        for (int field : off(0, 4)) {
            refused(x, "as(" + field + ", 0)", () -> x.as(field, 0), UNKNOWN);
        }
    }

    private static void p10AsOutside() {
        sentence("P10", "OUTSIDE;");
        HedgeReader x = five();
        for (int kind : off(0, 4)) {
            refused(x, "as(2, " + kind + ")", () -> x.as(2, kind), OUTSIDE);
        }
    }

    private static void p10AsNotSuch() {
        sentence("P10", "NOT: it is none such.");
        HedgeReader x = five();
        refused(x, "a thorn as a holly", () -> x.as(0, 2), NOT);
        refused(x, "a thorn as a hazel", () -> x.as(4, 4), NOT);
        refused(x, "a holly as a bramble", () -> x.as(1, 3), NOT);
        refused(x, "a hazel as a thorn", () -> x.as(3, 1), NOT);
    }
}
