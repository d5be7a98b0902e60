/** What all tests share: comparing answers, telling texts, and the end of a test. */
final class Checks {
    private static int asked = 0;
    private static int wrong = 0;

    private Checks() {
    }

    static void due(String what, long got, long want) {
        asked++;
        if (got != want) {
            wrong++;
            if (wrong <= 40) {
                System.out.println(what + " answered " + got + ", due is " + want);
            }
        }
    }

    static void isTrue(String what, boolean holds) {
        due(what, holds ? 1 : 0, 1);
    }

    static void write(HedgeReader x, String text) {
        for (int i = 0; i < text.length(); i++) {
            x.write(text.charAt(i));
        }
    }

    /** Tells a text that must have no FAULT. */
    static void tell(HedgeReader x, String text) {
        write(x, text);
        due("parish() of " + text, x.parish(), text.split(";").length);
    }

    static HedgeReader told(String... texts) {
        HedgeReader x = new HedgeReader();
        for (String text : texts) {
            tell(x, text);
        }
        return x;
    }

    /** The FAULT of a text in an object; the text is erased again. */
    static void faultIs(HedgeReader x, String text, int want) {
        write(x, text);
        due("fault() of " + text, x.fault(), want);
        x.erase();
    }

    static void end(String test) {
        System.out.println(test + ": " + asked + " answers, " + wrong + " wrong");
        if (wrong != 0) {
            System.exit(1);
        }
    }
}
