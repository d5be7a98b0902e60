/**
 * What is foretold and done, in many parishes, against the plainest finding:
 * all rows, all sets, all ways, asked through the face alone.
 */
public final class PlainAnswersTest {
    private static final int NONE = HedgeReader.NONE;
    private static final String[] KIND_WORDS = {"thorn", "holly", "bramble", "hazel"};

    private final java.util.Random random;
    private final HedgeReader x = new HedgeReader();
    private int fields;
    private int[][] way;
    private int[] row = {};
    private int rowLetters;

    private PlainAnswersTest(long seed) {
        random = new java.util.Random(seed);
    }

    public static void main(String[] args) {
        for (long seed = 1; seed <= 400; seed++) {
            new PlainAnswersTest(seed).go();
        }
        Checks.end("PlainAnswersTest");
    }

    private int any(int low, int high) {
        return low + random.nextInt(high - low + 1);
    }

    private void go() {
        tellParish();
        fields = x.count(0);
        findWays();
        for (int round = 0; round < 12; round++) {
            compare();
            act();
        }
    }

    private void tellParish() {
        int wanted = any(1, 7);
        String letters = random.nextBoolean() ? "aeob" : "aeioubcdr";
        for (int f = 0; f < wanted; f++) {
            Checks.tell(x, KIND_WORDS[any(0, 3)] + " " + any(0, 3) + " " + any(1, 4) + " " + line(letters));
        }
        int gates = wanted == 1 ? 0 : any(0, 9);
        for (int g = 0; g < gates; g++) {
            int a = any(0, wanted - 1);
            int b = (a + any(1, wanted - 1)) % wanted;
            Checks.tell(x, "gate " + a + " " + b + " " + any(1, any(1, 30)));
        }
        int words = any(0, 8);
        for (int w = 0; w < words; w++) {
            Checks.tell(x, "word " + (random.nextBoolean() ? line(letters) : lineLike(any(0, wanted - 1), letters)));
        }
        Checks.tell(x, "dark " + any(10, 99));
    }

    private String line(String letters) {
        StringBuilder line = new StringBuilder();
        int size = any(1, 8);
        for (int i = 0; i < size; i++) {
            line.append(letters.charAt(any(0, letters.length() - 1)));
        }
        return line.toString();
    }

    /** A FIELD's LINE with one letter changed or two. */
    private String lineLike(int field, String letters) {
        StringBuilder line = new StringBuilder();
        int size = x.field(field, 3);
        for (int p = 0; p < size; p++) {
            line.append((char) ('a' + x.letter(field, p)));
        }
        for (int i = any(0, 2); i > 0; i--) {
            line.setCharAt(any(0, size - 1), letters.charAt(any(0, letters.length() - 1)));
        }
        return line.toString();
    }

    private void act() {
        switch (any(0, 9)) {
            case 0: rain(any(1, 9)); break;
            case 1: birds(); break;
            case 2: x.plough(any(0, fields - 1)); break;
            case 3: x.day(); break;
            case 4: x.undo(); break;
            case 5: case 6: x.read(); break;
            default: x.through(any(0, 8)); break;
        }
    }

    private void rain(int r) {
        int[] want = new int[fields];
        int gone = 0;
        for (int f = 0; f < fields; f++) {
            String left = placesLeft(f);
            int kind = x.field(f, 0);
            int lost = Math.min(left.length(), kind == 1 ? 0 : kind == 2 ? Math.max(0, r - 3) : r);
            String rest = kind == 3 ? left.substring(lost) : left.substring(0, left.length() - lost);
            for (char p : rest.toCharArray()) {
                want[f] += 1 << (p - '0');
            }
            gone += lost;
        }
        Checks.due("rain", x.rain(r), gone);
        for (int f = 0; f < fields; f++) {
            Checks.due("left behind rain", x.field(f, 5), want[f]);
        }
    }

    private String placesLeft(int f) {
        StringBuilder left = new StringBuilder();
        for (int p = 0; p < x.field(f, 3); p++) {
            if (x.letter(f, p) != NONE) {
                left.append(p);
            }
        }
        return left.toString();
    }

    private void birds() {
        int[] want = new int[fields];
        int gone = 0;
        for (int f = 0; f < fields; f++) {
            for (char c : placesLeft(f).toCharArray()) {
                int p = c - '0';
                if (taken(f, x.letter(f, p))) {
                    gone++;
                } else {
                    want[f] += 1 << p;
                }
            }
        }
        Checks.due("birds", x.birds(), gone);
        for (int f = 0; f < fields; f++) {
            Checks.due("left behind birds", x.field(f, 5), want[f]);
        }
    }

    private boolean taken(int f, int letter) {
        String food = new String[] {"eo", "eo", "", "aeiou"}[x.field(f, 0)];
        return food.indexOf('a' + letter) >= 0;
    }

    private void findWays() {
        way = new int[fields][fields];
        for (int a = 0; a < fields; a++) {
            java.util.Arrays.fill(way[a], NONE);
            way[a][a] = 0;
            for (int round = 0; round < fields; round++) {
                for (int g = 0; g < x.count(1); g++) {
                    relax(way[a], x.gate(g, 0), x.gate(g, 1), x.gate(g, 2));
                    relax(way[a], x.gate(g, 1), x.gate(g, 0), x.gate(g, 2));
                }
            }
            for (int b = 0; b < fields; b++) {
                Checks.due("far", x.far(a, b), way[a][b]);
            }
        }
    }

    private static void relax(int[] from, int a, int b, int minutes) {
        if (from[a] != NONE && (from[b] == NONE || from[b] > from[a] + minutes)) {
            from[b] = from[a] + minutes;
        }
    }

    private boolean readable(int f) {
        return x.field(f, 0) != 1 || x.count(8) < 5;
    }

    private void compare() {
        for (int f = 0; f < fields; f++) {
            compareReading(f);
            for (int what = 0; what < 2; what++) {
                compareWords(f, what);
            }
            compareOdds(f, any(0, 8), any(0, 10));
        }
        for (int tale = 0; tale < 4; tale++) {
            compareWhole(tale);
            compareLeast(tale);
        }
        compareFeast();
    }

    private void compareReading(int f) {
        int n = placesLeft(f).length();
        Checks.due("left", x.field(f, 4), n);
        Checks.due("minutes", x.field(f, 6), new int[] {2 * n + 1, 2 * n + 1, 4 * n + 2, n}[x.field(f, 0)]);
    }

    private void compareFeast() {
        row = new int[0];
        rowLetters = 0;
        extend(new int[0], 0, x.count(6), x.count(5));
        Checks.due("feast letters", x.feast(NONE), rowLetters);
        Checks.due("feast fields", x.feast(-2), row.length);
        for (int k = 0; k < 7; k++) {
            Checks.due("feast " + k, x.feast(k), k < row.length ? row[k] : NONE);
        }
        x.shelf(0, 0, 7);
        Checks.due("list", x.list(0, 0, 0), row.length);
        for (int k = 0; k < row.length; k++) {
            Checks.due("list " + k, x.look(0, k), 10000000000L + row[k]);
        }
    }

    /** Rows come in their order, so the first of like ones stays. */
    private void extend(int[] ahead, int letters, int at, int minute) {
        if (letters > rowLetters || letters == rowLetters && ahead.length < row.length) {
            row = ahead;
            rowLetters = letters;
        }
        for (int f = 0; f < fields; f++) {
            if (x.field(f, 7) == 1 || !readable(f) || way[at][f] == NONE || has(ahead, f)) {
                continue;
            }
            int then = minute + way[at][f] + x.field(f, 6);
            if (then <= x.count(3)) {
                int[] more = java.util.Arrays.copyOf(ahead, ahead.length + 1);
                more[ahead.length] = f;
                extend(more, letters + x.field(f, 4), f, then);
            }
        }
    }

    private static boolean has(int[] row, int f) {
        for (int other : row) {
            if (other == f) {
                return true;
            }
        }
        return false;
    }

    private void compareWhole(int tale) {
        java.util.ArrayList<Integer> order = new java.util.ArrayList<>();
        for (int f = 0; f < fields; f++) {
            if (x.field(f, 1) == tale) {
                order.add(f);
            }
        }
        order.sort((a, b) -> x.field(a, 2) != x.field(b, 2) ? x.field(a, 2) - x.field(b, 2) : a - b);
        int want = order.isEmpty() ? NONE : 0;
        int at = x.count(6);
        for (int f : order) {
            if (want == NONE || way[at][f] == NONE || !readable(f)) {
                want = NONE;
                break;
            }
            want += way[at][f] + x.field(f, 6);
            at = f;
        }
        Checks.due("whole", x.whole(tale), want);
        Checks.due("before", x.before(tale), want != NONE && want + x.count(5) <= x.count(3) ? 1 : 0);
    }

    private void compareLeast(int tale) {
        int want = NONE;
        for (int set = 0; set < 1 << x.count(1); set++) {
            if (comesToAll(tale, set) && (want == NONE || Integer.bitCount(set) < Integer.bitCount(want))) {
                want = set;
            }
        }
        Checks.due("least", x.least(tale), want);
    }

    private boolean comesToAll(int tale, int set) {
        boolean[] been = new boolean[fields];
        visit(x.count(6), set, been);
        boolean some = false;
        for (int f = 0; f < fields; f++) {
            if (x.field(f, 1) == tale) {
                some = true;
                if (!been[f]) {
                    return false;
                }
            }
        }
        return some;
    }

    private void visit(int f, int set, boolean[] been) {
        if (been[f]) {
            return;
        }
        been[f] = true;
        for (int g = 0; g < x.count(1); g++) {
            if ((set >> g & 1) == 1 && x.gate(g, 0) == f) {
                visit(x.gate(g, 1), set, been);
            }
            if ((set >> g & 1) == 1 && x.gate(g, 1) == f) {
                visit(x.gate(g, 0), set, been);
            }
        }
    }

    private void compareWords(int f, int what) {
        java.util.ArrayList<Integer> fit = new java.util.ArrayList<>();
        int bits = 0;
        for (int w = 0; w < x.count(2); w++) {
            if (fits(w, f, what)) {
                fit.add(w);
                bits += 1 << w;
            }
        }
        Checks.due("could", x.could(f, what), bits);
        int best = NONE;
        int fewest = 99;
        for (int p = 0; p < x.field(f, 3) && !fit.isEmpty(); p++) {
            int[] have = new int[26];
            for (int w : fit) {
                have[x.word(w, p)]++;
            }
            int most = java.util.Arrays.stream(have).max().getAsInt();
            if (x.letter(f, p) == NONE && most < fewest) {
                best = p;
                fewest = most;
            }
        }
        Checks.due("which", x.which(f, what), best);
    }

    private boolean fits(int w, int f, int what) {
        if (x.word(w, NONE) != x.field(f, 3)) {
            return false;
        }
        for (int p = 0; p < x.field(f, 3); p++) {
            int letter = x.letter(f, p);
            boolean good = letter == NONE ? what == 0 || taken(f, x.word(w, p)) : letter == x.word(w, p);
            if (!good) {
                return false;
            }
        }
        return true;
    }

    /** Each of the LETTERS that BIRDS would take is gone or not: all ways are counted. */
    private void compareOdds(int f, int m, int q) {
        String left = placesLeft(f);
        int endangered = 0;
        for (char p : left.toCharArray()) {
            endangered += taken(f, x.letter(f, p - '0')) ? 1 : 0;
        }
        long above = 0;
        long below = 1;
        for (int i = 0; i < endangered; i++) {
            below *= 10;
        }
        for (int gone = 0; gone < 1 << endangered; gone++) {
            if (left.length() - Integer.bitCount(gone) < m) {
                continue;
            }
            long ways = 1;
            for (int i = 0; i < endangered; i++) {
                ways *= (gone >> i & 1) == 1 ? q : 10 - q;
            }
            above += ways;
        }
        long divisor = java.math.BigInteger.valueOf(above).gcd(java.math.BigInteger.valueOf(below)).longValue();
        Checks.due("odds above", x.odds(f, m, q, 0), above / divisor);
        Checks.due("odds below", x.odds(f, m, q, 1), below / divisor);
    }
}
