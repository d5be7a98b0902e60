import java.math.BigInteger;
import java.util.ArrayDeque;
import java.util.ArrayList;
import java.util.Arrays;
import java.util.Comparator;
import java.util.List;
import java.util.TreeSet;
import java.util.regex.Matcher;
import java.util.regex.Pattern;

/**
 * The document once more, in the plainest words of the whole Java library: states that never
 * change, all rows and all sets tried, shelves that are Java's own rows, whose faults the machine
 * finds itself. WholeRunsTest asks it and the class the same.
 */
final class PlainReader {
    static final int NONE = -1, UNKNOWN = -2, OUTSIDE = -3, NOT = -4, FULL = -5, NULL = -11, CAST = -12, INDEX = -13, SIZE = -14, STORE = -15;
    private static final List<String> KINDS = List.of("thorn", "holly", "bramble", "hazel");
    private static final String GONE = ".";

    private record Field(int kind, int tale, int chapter, String line) {
    }

    private record Gate(int a, int b, int minutes) {
    }

    private record Parish(List<Field> fields, List<Gate> gates, List<String> words, int dark) {
    }

    /** What goes on: of each LINE what is LEFT, with points for what is GONE. */
    private record Going(List<String> left, TreeSet<Integer> read, int minute, int day, int at, int wet) {
    }

    private record Seen(int field, int n, int m) {
    }

    /** A text read: where its FAULT is, how many CLAUSES, what is told then. */
    private record Reading(int fault, int clauses, Parish told) {
    }

    private String text = "";
    private Parish told = new Parish(List.of(), List.of(), List.of(), 60);
    private Going now = begun();
    private final ArrayDeque<Going> undone = new ArrayDeque<>();
    private final Going[] kept = new Going[2];
    private final ArrayList<Seen> sights = new ArrayList<>();
    private final Object[] shelves = new Object[4];

    private Going begun() {
        return new Going(told.fields.stream().map(Field::line).toList(), new TreeSet<>(), 0, 0, 0, 0);
    }

    int write(int letter) {
        if (letter < 0 || letter > 255) {
            return OUTSIDE;
        }
        if (text.length() == 200) {
            return FULL;
        }
        text += (char) letter;
        return text.length();
    }

    int erase() {
        int had = text.length();
        text = "";
        return had;
    }

    int fault() {
        return reading().fault;
    }

    int parish() {
        Reading reading = reading();
        if (reading.fault != NONE) {
            return NOT;
        }
        told = reading.told;
        now = begun();
        undone.clear();
        Arrays.fill(kept, null);
        sights.clear();
        text = "";
        return reading.clauses;
    }

    /** Each TOKEN is asked for by what may stand there, a pattern and a number's bounds. */
    private Reading reading() {
        Matcher token = Pattern.compile("[a-z]+|[0-9]+|[^ a-z0-9]", Pattern.DOTALL).matcher(text);
        Parish so = told;
        int clauses = 0;
        while (true) {
            int place = next(token);
            if (place == text.length() || !"parish thorn holly bramble hazel gate word dark".matches(".*\\b" + Pattern.quote(token.group()) + "\\b.*")) {
                return new Reading(place, clauses, so);
            }
            String word = token.group();
            String form = KINDS.contains(word) ? "TCL" : word.equals("gate") ? "ABM" : word.equals("word") ? "L" : word.equals("dark") ? "N" : "";
            if (form.equals("TCL") && so.fields.size() == 7 || form.equals("ABM") && so.gates.size() == 9 || form.equals("L") && so.words.size() == 8) {
                return new Reading(place, clauses, so);
            }
            ArrayList<String> parts = new ArrayList<>();
            for (char part : form.toCharArray()) {
                place = next(token);
                if (place == text.length() || !canStand(part, token.group(), parts, so.fields.size())) {
                    return new Reading(place, clauses, so);
                }
                parts.add(part == 'L' ? token.group() : "" + Integer.parseInt(token.group()));
            }
            so = withClause(so, word, parts);
            clauses++;
            place = next(token);
            if (place == text.length()) {
                return new Reading(NONE, clauses, so);
            }
            if (clauses == 20 || !token.group().equals(";")) {
                return new Reading(place, clauses, so);
            }
        }
    }

    private int next(Matcher token) {
        return token.find() ? token.start() : text.length();
    }

    private static boolean canStand(char part, String token, List<String> ahead, int fields) {
        if (part == 'L') {
            return token.matches("[a-z]{1,8}");
        }
        if (!token.matches("[0-9]{1,2}")) {
            return false;
        }
        int n = Integer.parseInt(token);
        return switch (part) {
            case 'T' -> n < 4;
            case 'C' -> n > 0 && n < 10;
            case 'A' -> n < fields;
            case 'B' -> n < fields && n != Integer.parseInt(ahead.get(0));
            case 'M' -> n > 0 && n < 31;
            default -> n > 9;
        };
    }

    private static Parish withClause(Parish so, String word, List<String> parts) {
        ArrayList<Field> fields = new ArrayList<>(so.fields);
        ArrayList<Gate> gates = new ArrayList<>(so.gates);
        ArrayList<String> words = new ArrayList<>(so.words);
        int dark = so.dark;
        switch (word) {
            case "parish":
                return new Parish(List.of(), List.of(), List.of(), 60);
            case "gate":
                gates.add(new Gate(Integer.parseInt(parts.get(0)), Integer.parseInt(parts.get(1)), Integer.parseInt(parts.get(2))));
                break;
            case "word":
                words.add(parts.get(0));
                break;
            case "dark":
                dark = Integer.parseInt(parts.get(0));
                break;
            default:
                fields.add(new Field(KINDS.indexOf(word), Integer.parseInt(parts.get(0)), Integer.parseInt(parts.get(1)), parts.get(2)));
                break;
        }
        return new Parish(fields, gates, words, dark);
    }

    private static boolean isIn(List<?> row, int i) {
        return i >= 0 && i < row.size();
    }

    private String left(int field) {
        return now.left.get(field);
    }

    private int lettersLeft(int field) {
        return left(field).replace(GONE, "").length();
    }

    private static int minutes(int kind, int n) {
        return List.of(2 * n + 1, 2 * n + 1, 2 * (2 * n + 1), n).get(kind);
    }

    private int minutes(int field) {
        return minutes(told.fields.get(field).kind, lettersLeft(field));
    }

    int field(int field, int what) {
        if (!isIn(told.fields, field)) {
            return UNKNOWN;
        }
        Field of = told.fields.get(field);
        return switch (what) {
            case 0 -> of.kind;
            case 1 -> of.tale;
            case 2 -> of.chapter;
            case 3 -> of.line.length();
            case 4 -> lettersLeft(field);
            case 5 -> {
                int bits = 0;
                for (int p = 0; p < of.line.length(); p++) {
                    bits += left(field).charAt(p) == '.' ? 0 : 1 << p;
                }
                yield bits;
            }
            case 6 -> minutes(field);
            case 7 -> now.read.contains(field) ? 1 : 0;
            default -> OUTSIDE;
        };
    }

    int letter(int field, int place) {
        if (!isIn(told.fields, field) || place < 0 || place >= left(field).length()) {
            return UNKNOWN;
        }
        char letter = left(field).charAt(place);
        return letter == '.' ? NONE : letter - 'a';
    }

    int gate(int gate, int what) {
        if (!isIn(told.gates, gate)) {
            return UNKNOWN;
        }
        Gate of = told.gates.get(gate);
        return what == 0 ? of.a : what == 1 ? of.b : what == 2 ? of.minutes : OUTSIDE;
    }

    int word(int word, int place) {
        if (!isIn(told.words, word)) {
            return UNKNOWN;
        }
        String of = told.words.get(word);
        return place == NONE ? of.length() : place < 0 || place >= of.length() ? UNKNOWN : of.charAt(place) - 'a';
    }

    int as(int field, int kind) {
        if (!isIn(told.fields, field)) {
            return UNKNOWN;
        }
        if (kind < 0 || kind > 4) {
            return OUTSIDE;
        }
        int of = told.fields.get(field).kind;
        List<List<Integer>> over = List.of(List.of(0, 1), List.of(0, 1, 2), List.of(0, 1, 3), List.of(0, 4));
        return over.get(of).contains(kind) ? minutes(of, 8) : NOT;
    }

    private void does(Going next) {
        undone.addLast(now);
        if (undone.size() > 8) {
            undone.removeFirst();
        }
        now = next;
    }

    int through(int gate) {
        if (!isIn(told.gates, gate)) {
            return UNKNOWN;
        }
        Gate of = told.gates.get(gate);
        int then = now.minute + of.minutes;
        if (of.a != now.at && of.b != now.at || then > told.dark) {
            return NOT;
        }
        int to = of.a + of.b - now.at;
        does(new Going(now.left, now.read, then, now.day, to, now.wet));
        return to;
    }

    private boolean cannotBeRead(int field) {
        return told.fields.get(field).kind == 1 && now.wet > 4;
    }

    int read() {
        int at = now.at;
        if (told.fields.isEmpty() || now.read.contains(at) || cannotBeRead(at) || now.minute + minutes(at) > told.dark) {
            return NOT;
        }
        TreeSet<Integer> read = new TreeSet<>(now.read);
        read.add(at);
        does(new Going(now.left, read, now.minute + minutes(at), now.day, at, now.wet));
        return lettersLeft(at);
    }

    private int allLeft() {
        return String.join("", now.left).replace(GONE, "").length();
    }

    private int loses(List<String> left, int wet) {
        int ahead = allLeft();
        does(new Going(left, now.read, now.minute, now.day, now.at, wet));
        return ahead - allLeft();
    }

    int rain(int r) {
        if (r < 1 || r > 9) {
            return OUTSIDE;
        }
        ArrayList<String> left = new ArrayList<>();
        for (int f = 0; f < told.fields.size(); f++) {
            String line = left(f);
            int kind = told.fields.get(f).kind;
            for (int drop = kind == 2 ? 4 : 1; drop <= r && kind != 1; drop++) {
                line = line.replaceFirst(kind == 3 ? "[a-z]" : "[a-z](?=\\.*$)", GONE);
            }
            left.add(line);
        }
        return loses(left, r);
    }

    private static String food(int kind) {
        return List.of("[eo]", "[eo]", "[^\\x00-\\uffff]", "[aeiou]").get(kind);
    }

    int birds() {
        ArrayList<String> left = new ArrayList<>();
        for (int f = 0; f < told.fields.size(); f++) {
            left.add(left(f).replaceAll(food(told.fields.get(f).kind), GONE));
        }
        return loses(left, now.wet);
    }

    int plough(int field) {
        if (!isIn(told.fields, field)) {
            return UNKNOWN;
        }
        if (lettersLeft(field) == 0) {
            return NOT;
        }
        ArrayList<String> left = new ArrayList<>(now.left);
        left.set(field, GONE.repeat(left(field).length()));
        return loses(left, now.wet);
    }

    int day() {
        if (now.day == 999) {
            return FULL;
        }
        int over = now.read.size();
        does(new Going(now.left, new TreeSet<>(), 0, now.day + 1, now.at, 0));
        return over;
    }

    int undo() {
        if (undone.isEmpty()) {
            return NOT;
        }
        now = undone.removeLast();
        return undone.size();
    }

    int keep(int k) {
        if (k != 0 && k != 1) {
            return UNKNOWN;
        }
        kept[k] = now;
        return now.day;
    }

    int back(int k) {
        if (k != 0 && k != 1) {
            return UNKNOWN;
        }
        if (kept[k] == null) {
            return NOT;
        }
        now = kept[k];
        undone.clear();
        return now.day;
    }

    int far(int field, int other) {
        if (!isIn(told.fields, field) || !isIn(told.fields, other)) {
            return UNKNOWN;
        }
        int far = wayTo(other, field, new TreeSet<>());
        return far > 9999 ? NONE : far;
    }

    /** The shortest of all ways that come nowhere twice. */
    private int wayTo(int other, int from, TreeSet<Integer> been) {
        if (from == other) {
            return 0;
        }
        int best = 10000;
        TreeSet<Integer> more = new TreeSet<>(been);
        more.add(from);
        for (Gate g : told.gates) {
            int to = g.a == from ? g.b : g.b == from ? g.a : from;
            if (!more.contains(to)) {
                best = Math.min(best, g.minutes + wayTo(other, to, more));
            }
        }
        return best;
    }

    private List<Integer> fieldsOf(int tale) {
        ArrayList<Integer> of = new ArrayList<>();
        for (int f = 0; f < told.fields.size(); f++) {
            if (told.fields.get(f).tale == tale) {
                of.add(f);
            }
        }
        // Sorting leaves FIELDS of like CHAPTERS by their numbers.
        of.sort(Comparator.comparing(f -> told.fields.get(f).chapter));
        return of;
    }

    int whole(int tale) {
        if (tale < 0 || tale > 3) {
            return UNKNOWN;
        }
        int sum = 0;
        int at = now.at;
        for (int f : fieldsOf(tale)) {
            if (far(at, f) == NONE || cannotBeRead(f)) {
                return NONE;
            }
            sum += far(at, f) + minutes(f);
            at = f;
        }
        return fieldsOf(tale).isEmpty() ? NONE : sum;
    }

    int before(int tale) {
        int whole = whole(tale);
        return whole == UNKNOWN ? UNKNOWN : whole != NONE && now.minute + whole <= told.dark ? 1 : 0;
    }

    private List<Integer> feastRow() {
        ArrayList<List<Integer>> rows = new ArrayList<>();
        addRows(rows, List.of(), now.at, now.minute);
        Comparator<List<Integer>> order = Comparator.comparing(row -> -worth(row));
        order = order.thenComparing(List::size).thenComparing(List::toString);
        return rows.stream().min(order).get();
    }

    private int worth(List<Integer> row) {
        return row.stream().mapToInt(this::lettersLeft).sum();
    }

    private void addRows(ArrayList<List<Integer>> rows, List<Integer> row, int at, int minute) {
        rows.add(row);
        for (int f = 0; f < told.fields.size(); f++) {
            if (now.read.contains(f) || row.contains(f) || cannotBeRead(f) || far(at, f) == NONE) {
                continue;
            }
            int then = minute + far(at, f) + minutes(f);
            if (then <= told.dark) {
                ArrayList<Integer> more = new ArrayList<>(row);
                more.add(f);
                addRows(rows, more, f, then);
            }
        }
    }

    int feast(int k) {
        if (k < -2 || k > 6) {
            return OUTSIDE;
        }
        List<Integer> row = feastRow();
        return k == NONE ? worth(row) : k == -2 ? row.size() : k < row.size() ? row.get(k) : NONE;
    }

    int least(int tale) {
        if (tale < 0 || tale > 3) {
            return UNKNOWN;
        }
        List<Integer> wanted = fieldsOf(tale);
        for (int size = 0; size <= told.gates.size() && !wanted.isEmpty(); size++) {
            for (int set = 0; set < 1 << told.gates.size(); set++) {
                if (Integer.bitCount(set) == size && come(set).containsAll(wanted)) {
                    return set;
                }
            }
        }
        return NONE;
    }

    private TreeSet<Integer> come(int set) {
        TreeSet<Integer> come = new TreeSet<>(List.of(now.at));
        for (int round = 0; round < 9; round++) {
            for (int g = 0; g < told.gates.size(); g++) {
                Gate of = told.gates.get(g);
                if ((set & 1 << g) != 0 && (come.contains(of.a) || come.contains(of.b))) {
                    come.addAll(List.of(of.a, of.b));
                }
            }
        }
        return come;
    }

    private List<String> wordsFor(int field, int what) {
        String places = left(field).replace(GONE, what == 0 ? "[a-z]" : food(told.fields.get(field).kind));
        return told.words.stream().filter(w -> w.matches(places)).toList();
    }

    int could(int field, int what) {
        if (!isIn(told.fields, field)) {
            return UNKNOWN;
        }
        if (what != 0 && what != 1) {
            return OUTSIDE;
        }
        int bits = 0;
        for (int w = 0; w < told.words.size(); w++) {
            bits += wordsFor(field, what).contains(told.words.get(w)) ? 1 << w : 0;
        }
        return bits;
    }

    int which(int field, int what) {
        if (could(field, what) < 0) {
            return could(field, what);
        }
        List<String> words = wordsFor(field, what);
        int best = NONE;
        long fewest = Long.MAX_VALUE;
        for (int p = 0; p < left(field).length() && !words.isEmpty(); p++) {
            int place = p;
            long most = words.stream().mapToLong(w -> words.stream().filter(v -> v.charAt(place) == w.charAt(place)).count()).max().getAsLong();
            if (left(field).charAt(p) == '.' && most < fewest) {
                best = p;
                fewest = most;
            }
        }
        return best;
    }

    int seen(int field, int n, int m) {
        if (!isIn(told.fields, field)) {
            return UNKNOWN;
        }
        if (n < 0 || n > 8 || m < 0 || m > 60) {
            return OUTSIDE;
        }
        if (sights.size() == 6) {
            return FULL;
        }
        sights.add(new Seen(field, n, m));
        return sights.size();
    }

    int forget() {
        int had = sights.size();
        sights.clear();
        return had;
    }

    int kinds(int field) {
        if (!isIn(told.fields, field)) {
            return UNKNOWN;
        }
        int bits = 0;
        for (int kind = 0; kind < 4; kind++) {
            int by = kind;
            bits += sights.stream().allMatch(s -> s.field != field || minutes(by, s.n) == s.m) ? 1 << kind : 0;
        }
        return bits;
    }

    int odds(int field, int m, int q, int part) {
        if (!isIn(told.fields, field)) {
            return UNKNOWN;
        }
        if (m < 0 || m > 8 || q < 0 || q > 10 || part < 0 || part > 1) {
            return OUTSIDE;
        }
        // Of so many letters, in tenths: odds[n] that n are left, one letter more each round.
        long[] odds = new long[10];
        odds[0] = 1;
        long below = 1;
        for (char letter : left(field).replace(GONE, "").toCharArray()) {
            int taken = ("" + letter).matches(food(told.fields.get(field).kind)) ? q : 0;
            for (int n = 9; n >= 0; n--) {
                odds[n] = odds[n] * taken + (n == 0 ? 0 : odds[n - 1] * (10 - taken));
            }
            below *= 10;
        }
        long above = 0;
        for (int n = m; n < 10; n++) {
            above += odds[n];
        }
        long like = BigInteger.valueOf(above).gcd(BigInteger.valueOf(below)).longValue();
        return (int) (part == 0 ? above / like : below / like);
    }

    private static boolean isNoShelf(int shelf) {
        return shelf < 0 || shelf > 3;
    }

    int shelf(int shelf, int lane, int n) {
        if (isNoShelf(shelf)) {
            return UNKNOWN;
        }
        if (lane < 0 || lane > 2 || n > 24) {
            return OUTSIDE;
        }
        try {
            shelves[shelf] = lane == 0 ? new byte[n] : lane == 1 ? new short[n] : new int[n];
        } catch (NegativeArraySizeException found) {
            return SIZE;
        }
        return n;
    }

    int lay(int shelf, int lane, int i, int v) {
        if (isNoShelf(shelf)) {
            return UNKNOWN;
        }
        if (lane < 0 || lane > 2) {
            return OUTSIDE;
        }
        try {
            put(shelves[shelf], lane, i, v);
        } catch (RuntimeException found) {
            return codeOf(found);
        }
        return 1;
    }

    private static void put(Object row, int lane, int i, int v) {
        switch (lane) {
            case 0: ((byte[]) row)[i] = (byte) v; break;
            case 1: ((short[]) row)[i] = (short) v; break;
            default: ((int[]) row)[i] = v; break;
        }
    }

    private static int codeOf(RuntimeException found) {
        return found instanceof NullPointerException ? NULL : found instanceof ClassCastException ? CAST
            : found instanceof ArrayStoreException ? STORE : found instanceof IndexOutOfBoundsException ? INDEX : 0;
    }

    long look(int shelf, int i) {
        if (isNoShelf(shelf)) {
            return UNKNOWN;
        }
        try {
            return 10_000_000_000L + java.lang.reflect.Array.getLong(shelves[shelf], i);
        } catch (RuntimeException found) {
            return codeOf(found);
        }
    }

    int copy(int from, int i, int to, int j, int n) {
        if (isNoShelf(from) || isNoShelf(to)) {
            return UNKNOWN;
        }
        try {
            System.arraycopy(shelves[from], i, shelves[to], j, n);
        } catch (RuntimeException found) {
            return codeOf(found);
        }
        return n;
    }

    int drop(int shelf) {
        if (isNoShelf(shelf)) {
            return UNKNOWN;
        }
        try {
            int had = java.lang.reflect.Array.getLength(shelves[shelf]);
            shelves[shelf] = null;
            return had;
        } catch (RuntimeException found) {
            return codeOf(found);
        }
    }

    int list(int shelf, int lane, int i) {
        if (isNoShelf(shelf)) {
            return UNKNOWN;
        }
        if (lane < 0 || lane > 2) {
            return OUTSIDE;
        }
        Object row = shelves[shelf];
        List<Integer> feast = feastRow();
        try {
            int size = lane == 0 ? ((byte[]) row).length : lane == 1 ? ((short[]) row).length : ((int[]) row).length;
            java.util.Objects.checkFromIndexSize(i, feast.size(), size);
        } catch (RuntimeException found) {
            return codeOf(found);
        }
        for (int k = 0; k < feast.size(); k++) {
            put(row, lane, i + k, feast.get(k));
        }
        return feast.size();
    }

    int count(int what) {
        return switch (what) {
            case 0 -> told.fields.size();
            case 1 -> told.gates.size();
            case 2 -> told.words.size();
            case 3 -> told.dark;
            case 4 -> now.day;
            case 5 -> now.minute;
            case 6 -> told.fields.isEmpty() ? NONE : now.at;
            case 7 -> now.read.stream().mapToInt(f -> 1 << f).sum();
            case 8 -> now.wet;
            case 9 -> allLeft();
            case 10 -> sights.size();
            case 11 -> (int) Arrays.stream(shelves).filter(s -> s != null).count();
            case 12 -> undone.size();
            case 13 -> text.length();
            default -> OUTSIDE;
        };
    }
}
