import java.io.IOException;
import java.nio.file.Path;

/** What all tests share: comparing answers, telling texts, quoting the document, and the end of a test. */
final class Checks {
    private static Document document;
    private static String quoted = "";
    private static int sentences = 0;
    private static int askedAhead = 0;
    private static int asked = 0;
    private static int wrong = 0;

    private Checks() {
    }

    static void readDocument() throws IOException {
        document = new Document(Path.of("../shared/DOC.md"));
    }

    /** What is asked from now on tests these words of a part of the document. */
    static void sentence(String part, String words) {
        endSentence();
        quoted = "[" + part + ": " + words + "] ";
        sentences++;
        isTrue("the document has the words", document.quote(part, words));
        askedAhead = asked;
    }

    private static void endSentence() {
        if (sentences > 0) {
            isTrue("something is asked of it", asked > askedAhead);
        }
        quoted = "";
    }

    /** Each word of the document's sentences is quoted by a test. */
    static void endDocument() {
        endSentence();
        due("parts of the document", document.size(), 6 + 37);
        for (String words : document.unquoted()) {
            isTrue("a test of " + words, false);
        }
        System.out.println(sentences + " sentences of the document");
    }

    static void due(String what, long got, long want) {
        asked++;
        if (got != want) {
            wrong++;
            if (wrong <= 40) {
                System.out.println(quoted + what + " answered " + got + ", due is " + want);
            }
        }
    }

    static void isTrue(String what, boolean holds) {
        due(what, holds ? 1 : 0, 1);
    }

    static void write(HedgeReader x, String text) {
        for (int i = 0; i < text.length(); i++) {
            x.write(text.charAt(i));
        }
    }

    /** Tells a text that must have no FAULT. */
    static void tell(HedgeReader x, String text) {
        write(x, text);
        due("parish() of " + text, x.parish(), text.split(";").length);
    }

    static HedgeReader told(String... texts) {
        HedgeReader x = new HedgeReader();
        for (String text : texts) {
            tell(x, text);
        }
        return x;
    }

    /** The FAULT of a text in an object; the text is erased again. */
    static void faultIs(HedgeReader x, String text, int want) {
        write(x, text);
        due("fault() of " + text, x.fault(), want);
        x.erase();
    }

    /** All that the face tells without foretelling. */
    static String stateOf(HedgeReader x) {
        StringBuilder all = new StringBuilder();
        for (int what = 0; what <= 13; what++) {
            all.append(x.count(what)).append(' ');
        }
        for (int f = 0; f < x.count(0); f++) {
            for (int what = 0; what <= 7; what++) {
                all.append(x.field(f, what)).append(' ');
            }
            for (int p = 0; p < x.field(f, 3); p++) {
                all.append(x.letter(f, p)).append(' ');
            }
            all.append(x.kinds(f)).append(' ');
        }
        for (int g = 0; g < x.count(1); g++) {
            all.append(x.gate(g, 0)).append(x.gate(g, 1)).append(x.gate(g, 2)).append(' ');
        }
        for (int w = 0; w < x.count(2); w++) {
            for (int p = -1; p < 8; p++) {
                all.append(x.word(w, p)).append(' ');
            }
        }
        for (int s = 0; s < 4; s++) {
            for (int i = 0; i <= 24; i++) {
                all.append(x.look(s, i)).append(' ');
            }
        }
        return all.append(x.fault()).toString();
    }

    /** What goes on, which can be undone and kept: DAY, MINUTE, place, READ, WET, LETTERS LEFT. */
    static String goingOn(HedgeReader x) {
        StringBuilder all = new StringBuilder();
        for (int what = 4; what <= 9; what++) {
            all.append(x.count(what)).append(' ');
        }
        for (int f = 0; f < x.count(0); f++) {
            all.append(x.field(f, 5)).append(',').append(x.field(f, 7)).append(' ');
        }
        return all.toString();
    }

    static void end(String test) {
        System.out.println(test + ": " + asked + " answers, " + wrong + " wrong");
        if (wrong != 0) {
            System.exit(1);
        }
    }
}
