import java.util.ArrayList;
import java.util.Map;
import java.util.Random;
import java.util.regex.Matcher;
import java.util.regex.Pattern;

/** FAULTS of many texts, right and nearly right, against the plainest finding; a text without one is done. */
public final class FaultsTest {
    private static final Pattern TOKEN = Pattern.compile("[a-z]+|[0-9]+|[^ ]", Pattern.DOTALL);
    // What stands behind each word: T, C, A, B, M, N as the document has them, L a LINE.
    private static final Map<String, String> FORMS = Map.of("parish", "", "thorn", "TCL", "holly", "TCL", "bramble", "TCL",
        "hazel", "TCL", "gate", "ABM", "word", "L", "dark", "N");
    private static final String[] WORDS = {"thorn", "holly", "bramble", "hazel", "gate", "gate", "gate", "word", "word", "dark", "parish"};
    private static final String[] ODD = {"", "x", "abcdefghi", "7", "0", "007", "100", ";", ";;", "?", "A", "thorn", "gate 0", "\t"};

    private static final int NEVER = 1000;

    private final Random random;
    private final HedgeReader x = new HedgeReader();
    private final ArrayList<String> tokens = new ArrayList<>();
    private final ArrayList<Integer> places = new ArrayList<>();
    private int fields;
    private int gates;
    private int words;
    private int clauses;
    private int next;
    private String firstField = "";

    private FaultsTest(long seed) {
        random = new Random(seed);
    }

    public static void main(String[] args) {
        for (long seed = 0; seed < 1500; seed++) {
            new FaultsTest(seed).go();
        }
        Checks.end("FaultsTest");
    }

    private int any(int low, int high) {
        return low + random.nextInt(high - low + 1);
    }

    private void go() {
        for (int round = 0; round < 12; round++) {
            String text = text();
            Checks.write(x, text);
            int fault = faultOf(text);
            Checks.due("fault() of " + text, x.fault(), fault);
            if (fault == HedgeReader.NONE) {
                Checks.due("parish() of " + text, x.parish(), clauses);
            } else {
                Checks.due("parish() of " + text, x.parish(), HedgeReader.NOT);
                x.erase();
            }
            Checks.due("fields behind " + text, x.count(0), fields);
            Checks.due("gates behind " + text, x.count(1), gates);
            Checks.due("words behind " + text, x.count(2), words);
        }
    }

    /** Up to 24 CLAUSES; in some texts one TOKEN is not as it should be. */
    private String text() {
        StringBuilder text = new StringBuilder();
        int size = random.nextInt(3) == 0 ? any(15, 24) : any(1, 6);
        int odd = random.nextBoolean() ? NEVER : any(0, 3 * size);
        for (int c = 0; c < size; c++) {
            text.append(c == 0 ? "" : ";").append(clause(odd - 4 * c, size > 6));
        }
        return text.substring(0, Math.min(200, text.length()));
    }

    private String clause(int odd, boolean isShort) {
        String word = isShort && random.nextInt(4) > 0 ? "parish" : WORDS[any(0, WORDS.length - 1)];
        StringBuilder clause = new StringBuilder(odd == 0 ? oddToken() : word);
        String form = FORMS.get(word);
        for (int s = 0; s < form.length(); s++) {
            clause.append(" ".repeat(any(1, 2))).append(odd == s + 1 ? oddToken() : token(form.charAt(s)));
        }
        return clause.toString();
    }

    private String oddToken() {
        return ODD[any(0, ODD.length - 1)];
    }

    private String token(char slot) {
        switch (slot) {
            case 'T': return "" + any(0, random.nextInt(20) == 0 ? 4 : 3);
            case 'C': return "" + any(random.nextInt(20) == 0 ? 0 : 1, random.nextInt(20) == 0 ? 10 : 9);
            case 'A': case 'B': return (random.nextInt(9) == 0 ? "0" : "") + any(0, random.nextInt(5));
            case 'M': return "" + any(random.nextInt(9) == 0 ? 0 : 1, random.nextInt(9) == 0 ? 31 : 30);
            case 'N': return "" + any(random.nextInt(9) == 0 ? 9 : 10, random.nextInt(9) == 0 ? 100 : 99);
            default: return "abcdefghi".substring(0, any(1, random.nextInt(20) == 0 ? 9 : 8));
        }
    }

    private int faultOf(String text) {
        tokens.clear();
        places.clear();
        Matcher matcher = TOKEN.matcher(text);
        while (matcher.find()) {
            tokens.add(matcher.group());
            places.add(matcher.start());
        }
        int[] ahead = {fields, gates, words};
        next = 0;
        clauses = 0;
        if (canBeRead()) {
            return HedgeReader.NONE;
        }
        fields = ahead[0];
        gates = ahead[1];
        words = ahead[2];
        return next < tokens.size() ? places.get(next) : text.length();
    }

    /** Whether all TOKENS can stand; if not, next is the one that cannot. */
    private boolean canBeRead() {
        while (true) {
            if (next == tokens.size() || !FORMS.containsKey(tokens.get(next)) || isFull(tokens.get(next))) {
                return false;
            }
            String word = tokens.get(next++);
            for (char slot : FORMS.get(word).toCharArray()) {
                if (next == tokens.size() || !fits(slot, tokens.get(next))) {
                    return false;
                }
                next++;
            }
            tellClause(word);
            if (next == tokens.size()) {
                return true;
            }
            if (!tokens.get(next).equals(";") || clauses == 20) {
                return false;
            }
            next++;
        }
    }

    private boolean isFull(String word) {
        switch (FORMS.get(word)) {
            case "TCL": return fields == 7;
            case "ABM": return gates == 9;
            case "L": return words == 8;
            default: return false;
        }
    }

    private void tellClause(String word) {
        clauses++;
        switch (FORMS.get(word)) {
            case "TCL": fields++; break;
            case "ABM": gates++; break;
            case "L": words++; break;
            case "":
                fields = 0;
                gates = 0;
                words = 0;
                break;
            default: break;
        }
    }

    private boolean fits(char slot, String token) {
        if (slot == 'L') {
            return token.matches("[a-z]{1,8}");
        }
        if (!token.matches("[0-9]{1,2}")) {
            return false;
        }
        int number = Integer.parseInt(token);
        switch (slot) {
            case 'T': return number <= 3;
            case 'C': return number >= 1 && number <= 9;
            case 'A':
                firstField = "" + number;
                return number < fields;
            case 'B': return number < fields && !firstField.equals("" + number);
            case 'M': return number >= 1 && number <= 30;
            default: return number >= 10;
        }
    }
}
