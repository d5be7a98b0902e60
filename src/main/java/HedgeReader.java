/**
 * A parish whose library is its hedges: fields with a line of letters each,
 * gates between them, a lexicon, and what can be read of it before dark.
 */
public final class HedgeReader {
    public static final int NONE = -1, UNKNOWN = -2, OUTSIDE = -3, NOT = -4, FULL = -5, NULL = -11, CAST = -12, INDEX = -13, SIZE = -14, STORE = -15;

    private static final int MOST_FIELDS = 7;
    private static final int MOST_GATES = 9;
    private static final int MOST_WORDS = 8;
    private static final int LINE_ROOM = 8;
    private static final int TEXT_ROOM = 200;
    private static final int MOST_CLAUSES = 20;
    private static final int TALES = 4;
    private static final int LAST_CHAPTER = 9;
    private static final int FIRST_DARK = 60;
    private static final int LAST_DAY = 999;
    private static final int TOO_WET = 5;
    private static final int MOST_UNDONE = 8;
    private static final int KEPT_ROOM = 2;
    private static final int MOST_SEEN = 6;
    private static final int SHELVES = 4;
    private static final int LANES = 3;
    private static final int SHELF_ROOM = 24;
    private static final int FIELD_SETS = 1 << MOST_FIELDS;
    private static final long LOOK_BASE = 10000000000L;

    // KINDS, which are also what a CLAUSE that tells a FIELD is.
    private static final int THORN = 0;
    private static final int HOLLY = 1;
    private static final int BRAMBLE = 2;
    private static final int HAZEL = 3;
    private static final int KINDS = 4;

    // What the other CLAUSES are.
    private static final int PARISH_CLAUSE = 4;
    private static final int GATE_CLAUSE = 5;
    private static final int WORD_CLAUSE = 6;
    private static final int DARK_CLAUSE = 7;

    // Where a row of a CLAUSE holds what.
    private static final int SORT = 0;
    private static final int FIRST = 1;
    private static final int SECOND = 2;
    private static final int THIRD = 3;
    private static final int LINE_START = 4;
    private static final int LINE_SIZE = 5;
    private static final int CLAUSE_ROOM = 6;

    // What a TOKEN is.
    private static final int AT_END = 0;
    private static final int SMALL_LETTERS = 1;
    private static final int DIGITS = 2;
    private static final int OTHER_LETTER = 3;

    // Far above every way that there is, so low that sums of some stay an int.
    private static final int NO_WAY = 1000000;

    private final Text text = new Text();
    private final Clauses clauses = new Clauses(text);
    private final Parish told = new Parish();
    private final State now = new State();
    private final Past past = new Past();
    private final State[] kept = new State[KEPT_ROOM];
    private final boolean[] isKept = new boolean[KEPT_ROOM];
    private final Sights sights = new Sights();
    private final Walk walk = new Walk();
    private final Shelf[] shelves = new Shelf[SHELVES];

    public HedgeReader() {
        for (int k = 0; k < KEPT_ROOM; k++) {
            kept[k] = new State();
        }
        for (int s = 0; s < SHELVES; s++) {
            shelves[s] = new Shelf();
        }
    }

    // ---- what is told.

    public int write(int letter) {
        if (letter < 0 || letter > 255) {
            return OUTSIDE;
        }
        if (text.size >= TEXT_ROOM) {
            return FULL;
        }
        text.letters[text.size] = letter;
        text.size++;
        return text.size;
    }

    public int erase() {
        int had = text.size;
        text.size = 0;
        return had;
    }

    public int fault() {
        return clauses.findFault(told);
    }

    public int parish() {
        if (clauses.findFault(told) != NONE) {
            return NOT;
        }
        for (int c = 0; c < clauses.size; c++) {
            told.tell(clauses.rows[c], text);
        }
        told.measure();
        now.begin(told);
        past.size = 0;
        sights.size = 0;
        for (int k = 0; k < KEPT_ROOM; k++) {
            isKept[k] = false;
        }
        text.size = 0;
        return clauses.size;
    }

    public int field(int field, int what) {
        if (!told.hasField(field)) {
            return UNKNOWN;
        }
        switch (what) {
            case 0: return told.kind[field];
            case 1: return told.tale[field];
            case 2: return told.chapter[field];
            case 3: return told.lineSize[field];
            case 4: return Integer.bitCount(now.left[field]);
            case 5: return now.left[field];
            case 6: return now.readingMinutes(told, field);
            case 7: return now.isRead(field) ? 1 : 0;
            default: return OUTSIDE;
        }
    }

    public int letter(int field, int place) {
        if (!told.hasPlace(field, place)) {
            return UNKNOWN;
        }
        return now.isLeft(field, place) ? told.line[field][place] : NONE;
    }

    public int gate(int gate, int what) {
        if (!told.hasGate(gate)) {
            return UNKNOWN;
        }
        switch (what) {
            case 0: return told.gateFrom[gate];
            case 1: return told.gateTo[gate];
            case 2: return told.gateMinutes[gate];
            default: return OUTSIDE;
        }
    }

    public int word(int word, int place) {
        if (word < 0 || word >= told.words) {
            return UNKNOWN;
        }
        if (place == NONE) {
            return told.wordSize[word];
        }
        if (place < 0 || place >= told.wordSize[word]) {
            return UNKNOWN;
        }
        return told.word[word][place];
    }

    public int as(int field, int kind) {
        if (!told.hasField(field)) {
            return UNKNOWN;
        }
        if (kind < 0 || kind > KINDS) {
            return OUTSIDE;
        }
        if (!Hedges.isUnder(told.kind[field], kind)) {
            return NOT;
        }
        return Hedges.minutes(told.kind[field], LINE_ROOM);
    }

    // ---- what is done.

    public int through(int gate) {
        if (!told.hasGate(gate)) {
            return UNKNOWN;
        }
        int other = told.otherSide(gate, now.at);
        int minute = now.minute + told.gateMinutes[gate];
        if (other == NONE || minute > told.dark) {
            return NOT;
        }
        past.remember(now);
        now.at = other;
        now.minute = minute;
        return other;
    }

    public int read() {
        int field = now.at;
        if (!told.hasField(field) || now.isRead(field) || !now.canBeRead(told, field)) {
            return NOT;
        }
        int minute = now.minute + now.readingMinutes(told, field);
        if (minute > told.dark) {
            return NOT;
        }
        past.remember(now);
        now.minute = minute;
        now.readFields |= 1 << field;
        return Integer.bitCount(now.left[field]);
    }

    public int rain(int r) {
        if (r < 1 || r > 9) {
            return OUTSIDE;
        }
        past.remember(now);
        int ahead = now.lettersLeft(told);
        for (int f = 0; f < told.fields; f++) {
            now.left[f] = Hedges.leftBehindRain(told.kind[f], now.left[f], r);
        }
        now.wet = r;
        return ahead - now.lettersLeft(told);
    }

    public int birds() {
        past.remember(now);
        int ahead = now.lettersLeft(told);
        for (int f = 0; f < told.fields; f++) {
            now.left[f] &= ~birdPlaces(f);
        }
        return ahead - now.lettersLeft(told);
    }

    public int plough(int field) {
        if (!told.hasField(field)) {
            return UNKNOWN;
        }
        if (now.left[field] == 0) {
            return NOT;
        }
        past.remember(now);
        int gone = Integer.bitCount(now.left[field]);
        now.left[field] = 0;
        return gone;
    }

    public int day() {
        if (now.day >= LAST_DAY) {
            return FULL;
        }
        past.remember(now);
        int over = Integer.bitCount(now.readFields);
        now.readFields = 0;
        now.minute = 0;
        now.wet = 0;
        now.day++;
        return over;
    }

    public int undo() {
        if (past.size == 0) {
            return NOT;
        }
        past.restore(now);
        return past.size;
    }

    public int keep(int k) {
        if (k < 0 || k >= KEPT_ROOM) {
            return UNKNOWN;
        }
        kept[k].takeFrom(now);
        isKept[k] = true;
        return now.day;
    }

    public int back(int k) {
        if (k < 0 || k >= KEPT_ROOM) {
            return UNKNOWN;
        }
        if (!isKept[k]) {
            return NOT;
        }
        now.takeFrom(kept[k]);
        past.size = 0;
        return now.day;
    }

    // ---- foretold.

    public int far(int field, int other) {
        if (!told.hasField(field) || !told.hasField(other)) {
            return UNKNOWN;
        }
        int minutes = told.way[field][other];
        return minutes < NO_WAY ? minutes : NONE;
    }

    public int whole(int tale) {
        if (tale < 0 || tale >= TALES) {
            return UNKNOWN;
        }
        return wholeMinutes(tale);
    }

    public int before(int tale) {
        if (tale < 0 || tale >= TALES) {
            return UNKNOWN;
        }
        int minutes = wholeMinutes(tale);
        return minutes != NONE && now.minute + minutes <= told.dark ? 1 : 0;
    }

    public int feast(int k) {
        if (k < -2 || k >= MOST_FIELDS) {
            return OUTSIDE;
        }
        walk.find(told, now);
        if (k == NONE) {
            return walk.letters;
        }
        if (k == -2) {
            return walk.size;
        }
        return k < walk.size ? walk.row[k] : NONE;
    }

    public int least(int tale) {
        if (tale < 0 || tale >= TALES) {
            return UNKNOWN;
        }
        int wanted = told.fieldsOf(tale);
        if (wanted == 0) {
            return NONE;
        }
        int best = NONE;
        int fewest = MOST_GATES + 1;
        for (int set = 0; set < 1 << told.gates; set++) {
            int gates = Integer.bitCount(set);
            if (gates < fewest && (told.reachedBy(set, now.at) & wanted) == wanted) {
                best = set;
                fewest = gates;
            }
        }
        return best;
    }

    public int could(int field, int what) {
        if (!told.hasField(field)) {
            return UNKNOWN;
        }
        if (what < 0 || what > 1) {
            return OUTSIDE;
        }
        return fittingWords(field, what);
    }

    public int which(int field, int what) {
        if (!told.hasField(field)) {
            return UNKNOWN;
        }
        if (what < 0 || what > 1) {
            return OUTSIDE;
        }
        int words = fittingWords(field, what);
        if (words == 0) {
            return NONE;
        }
        int best = NONE;
        int fewest = MOST_WORDS + 1;
        for (int p = 0; p < told.lineSize[field]; p++) {
            if (now.isLeft(field, p)) {
                continue;
            }
            int most = told.mostAlike(words, p);
            if (most < fewest) {
                best = p;
                fewest = most;
            }
        }
        return best;
    }

    // ---- what was seen.

    public int seen(int field, int n, int m) {
        if (!told.hasField(field)) {
            return UNKNOWN;
        }
        if (n < 0 || n > LINE_ROOM || m < 0 || m > 60) {
            return OUTSIDE;
        }
        if (sights.size >= MOST_SEEN) {
            return FULL;
        }
        sights.add(field, n, m);
        return sights.size;
    }

    public int forget() {
        int had = sights.size;
        sights.size = 0;
        return had;
    }

    public int kinds(int field) {
        if (!told.hasField(field)) {
            return UNKNOWN;
        }
        int bits = 0;
        for (int kind = 0; kind < KINDS; kind++) {
            if (sights.agreeWith(field, kind)) {
                bits |= 1 << kind;
            }
        }
        return bits;
    }

    public int odds(int field, int m, int q, int part) {
        if (!told.hasField(field)) {
            return UNKNOWN;
        }
        if (m < 0 || m > LINE_ROOM || q < 0 || q > 10 || part < 0 || part > 1) {
            return OUTSIDE;
        }
        int endangered = Integer.bitCount(now.left[field] & birdPlaces(field));
        int spare = Integer.bitCount(now.left[field]) - m;
        long above = Odds.waysOfAtMost(spare, endangered, q);
        long below = Odds.power(10, endangered);
        long divisor = Odds.commonDivisor(above, below);
        if (divisor == 0) {
            return NONE;
        }
        return (int) ((part == 0 ? above : below) / divisor);
    }

    // ---- shelves.

    public int shelf(int shelf, int lane, int n) {
        if (!isShelf(shelf)) {
            return UNKNOWN;
        }
        if (!isLane(lane) || n > SHELF_ROOM) {
            return OUTSIDE;
        }
        if (n < 0) {
            return SIZE;
        }
        shelves[shelf].renew(lane, n);
        return n;
    }

    public int lay(int shelf, int lane, int i, int v) {
        int refused = laneRefusal(shelf, lane);
        if (refused != 0) {
            return refused;
        }
        Shelf row = shelves[shelf];
        if (!row.hasRoom(i, 1)) {
            return INDEX;
        }
        row.put(i, v);
        return 1;
    }

    public long look(int shelf, int i) {
        if (!isShelf(shelf)) {
            return UNKNOWN;
        }
        Shelf row = shelves[shelf];
        if (!row.isThere) {
            return NULL;
        }
        if (!row.hasRoom(i, 1)) {
            return INDEX;
        }
        return LOOK_BASE + row.numbers[i];
    }

    public int copy(int from, int i, int to, int j, int n) {
        if (!isShelf(from) || !isShelf(to)) {
            return UNKNOWN;
        }
        Shelf source = shelves[from];
        Shelf target = shelves[to];
        if (!source.isThere || !target.isThere) {
            return NULL;
        }
        if (source.lane != target.lane) {
            return STORE;
        }
        if (!source.hasRoom(i, n) || !target.hasRoom(j, n)) {
            return INDEX;
        }
        System.arraycopy(source.numbers, i, target.numbers, j, n);
        return n;
    }

    public int drop(int shelf) {
        if (!isShelf(shelf)) {
            return UNKNOWN;
        }
        Shelf row = shelves[shelf];
        if (!row.isThere) {
            return NULL;
        }
        row.isThere = false;
        return row.size;
    }

    public int list(int shelf, int lane, int i) {
        int refused = laneRefusal(shelf, lane);
        if (refused != 0) {
            return refused;
        }
        walk.find(told, now);
        Shelf row = shelves[shelf];
        if (!row.hasRoom(i, walk.size)) {
            return INDEX;
        }
        for (int k = 0; k < walk.size; k++) {
            row.put(i + k, walk.row[k]);
        }
        return walk.size;
    }

    public int count(int what) {
        switch (what) {
            case 0: return told.fields;
            case 1: return told.gates;
            case 2: return told.words;
            case 3: return told.dark;
            case 4: return now.day;
            case 5: return now.minute;
            case 6: return told.fields == 0 ? NONE : now.at;
            case 7: return now.readFields;
            case 8: return now.wet;
            case 9: return now.lettersLeft(told);
            case 10: return sights.size;
            case 11: return shelvesThere();
            case 12: return past.size;
            case 13: return text.size;
            default: return OUTSIDE;
        }
    }

    // ---- what several of the calls above ask.

    /** The places of a FIELD's LINE whose LETTERS BIRDS take, by bits. */
    private int birdPlaces(int field) {
        int places = 0;
        for (int p = 0; p < told.lineSize[field]; p++) {
            if (Hedges.birdsTake(told.kind[field], told.line[field][p])) {
                places |= 1 << p;
            }
        }
        return places;
    }

    private int wholeMinutes(int tale) {
        boolean found = false;
        int minutes = 0;
        int from = now.at;
        for (int chapter = 1; chapter <= LAST_CHAPTER; chapter++) {
            for (int f = 0; f < told.fields; f++) {
                if (told.tale[f] != tale || told.chapter[f] != chapter) {
                    continue;
                }
                if (told.way[from][f] >= NO_WAY || !now.canBeRead(told, f)) {
                    return NONE;
                }
                minutes += told.way[from][f] + now.readingMinutes(told, f);
                from = f;
                found = true;
            }
        }
        return found ? minutes : NONE;
    }

    private int fittingWords(int field, int what) {
        int words = 0;
        for (int w = 0; w < told.words; w++) {
            if (fits(w, field, what)) {
                words |= 1 << w;
            }
        }
        return words;
    }

    private boolean fits(int word, int field, int what) {
        if (told.wordSize[word] != told.lineSize[field]) {
            return false;
        }
        for (int p = 0; p < told.lineSize[field]; p++) {
            int letter = told.word[word][p];
            if (now.isLeft(field, p)) {
                if (letter != told.line[field][p]) {
                    return false;
                }
            } else if (what == 1 && !Hedges.birdsTake(told.kind[field], letter)) {
                return false;
            }
        }
        return true;
    }

    private static boolean isShelf(int shelf) {
        return shelf >= 0 && shelf < SHELVES;
    }

    private static boolean isLane(int lane) {
        return lane >= 0 && lane < LANES;
    }

    /** Why a SHELF cannot be taken as of a LANE; 0: it can. */
    private int laneRefusal(int shelf, int lane) {
        if (!isShelf(shelf)) {
            return UNKNOWN;
        }
        if (!isLane(lane)) {
            return OUTSIDE;
        }
        if (!shelves[shelf].isThere) {
            return NULL;
        }
        return shelves[shelf].lane == lane ? 0 : CAST;
    }

    private int shelvesThere() {
        int there = 0;
        for (int s = 0; s < SHELVES; s++) {
            if (shelves[s].isThere) {
                there++;
            }
        }
        return there;
    }

    /** What the KINDS of HEDGES have of their own. */
    private static final class Hedges {
        static int minutes(int kind, int letters) {
            int asThorn = 2 * letters + 1;
            switch (kind) {
                case BRAMBLE: return 2 * asThorn;
                case HAZEL: return letters;
                default: return asThorn;
            }
        }

        /** Whether a HEDGE can be taken as a KIND, as they are over one another. */
        static boolean isUnder(int kind, int over) {
            switch (over) {
                case 0: return true;
                case 1: return kind != HAZEL;
                default: return kind == over - 1;
            }
        }

        static boolean birdsTake(int kind, int letter) {
            boolean isEorO = letter == 'e' - 'a' || letter == 'o' - 'a';
            switch (kind) {
                case BRAMBLE: return false;
                case HAZEL: return isEorO || letter == 0 || letter == 'i' - 'a' || letter == 'u' - 'a';
                default: return isEorO;
            }
        }

        static int leftBehindRain(int kind, int left, int r) {
            switch (kind) {
                case THORN: return withoutLast(left, r);
                case BRAMBLE: return withoutLast(left, r - 3);
                case HAZEL: return withoutFirst(left, r);
                default: return left;
            }
        }

        private static int withoutLast(int left, int most) {
            int rest = left;
            int gone = 0;
            for (int p = LINE_ROOM - 1; p >= 0 && gone < most; p--) {
                if ((rest >> p & 1) == 1) {
                    rest &= ~(1 << p);
                    gone++;
                }
            }
            return rest;
        }

        private static int withoutFirst(int left, int most) {
            int rest = left;
            int gone = 0;
            for (int p = 0; p < LINE_ROOM && gone < most; p++) {
                if ((rest >> p & 1) == 1) {
                    rest &= ~(1 << p);
                    gone++;
                }
            }
            return rest;
        }
    }

    /** THE TEXT, and the TOKEN of it at which its reader is. */
    private static final class Text {
        final int[] letters = new int[TEXT_ROOM];
        int size;
        int start;
        int end;
        int sort;

        void begin() {
            end = 0;
            step();
        }

        /** To the next TOKEN; behind the last one stands one that is AT_END. */
        void step() {
            start = end;
            while (start < size && letters[start] == ' ') {
                start++;
            }
            end = start;
            sort = start < size ? sortOf(letters[start]) : AT_END;
            if (sort == AT_END) {
                return;
            }
            end++;
            while (sort != OTHER_LETTER && end < size && sortOf(letters[end]) == sort) {
                end++;
            }
        }

        private static int sortOf(int letter) {
            if (letter >= 'a' && letter <= 'z') {
                return SMALL_LETTERS;
            }
            return letter >= '0' && letter <= '9' ? DIGITS : OTHER_LETTER;
        }

        boolean isWord(String word) {
            if (sort != SMALL_LETTERS || end - start != word.length()) {
                return false;
            }
            for (int i = 0; i < word.length(); i++) {
                if (letters[start + i] != word.charAt(i)) {
                    return false;
                }
            }
            return true;
        }

        boolean isSemicolon() {
            return sort == OTHER_LETTER && letters[start] == ';';
        }

        /** The number that the TOKEN is; NONE: it is no number of 1 or 2 digits. */
        int value() {
            if (sort != DIGITS || end - start > 2) {
                return NONE;
            }
            int value = 0;
            for (int i = start; i < end; i++) {
                value = 10 * value + letters[i] - '0';
            }
            return value;
        }
    }

    /**
     * THE TEXT's CLAUSES, read ahead of being done. Each reading method stands
     * still at the TOKEN that cannot stand there, and answers false then.
     */
    private static final class Clauses {
        final int[][] rows = new int[MOST_CLAUSES][CLAUSE_ROOM];
        int size;
        private final Text text;
        private int fields;
        private int gates;
        private int words;

        Clauses(Text text) {
            this.text = text;
        }

        int findFault(Parish told) {
            fields = told.fields;
            gates = told.gates;
            words = told.words;
            size = 0;
            text.begin();
            while (size < MOST_CLAUSES) {
                if (!readClause(rows[size])) {
                    return text.start;
                }
                size++;
                if (text.sort == AT_END) {
                    return NONE;
                }
                // A ; tells that one more comes, so it can't stand behind the last that may.
                if (!text.isSemicolon() || size == MOST_CLAUSES) {
                    return text.start;
                }
                text.step();
            }
            return text.start;
        }

        private boolean readClause(int[] row) {
            int sort = clauseSort();
            if (sort == NONE || !hasRoomFor(sort)) {
                return false;
            }
            row[SORT] = sort;
            text.step();
            switch (sort) {
                case PARISH_CLAUSE:
                    fields = 0;
                    gates = 0;
                    words = 0;
                    return true;
                case GATE_CLAUSE:
                    gates++;
                    return readGate(row);
                case WORD_CLAUSE:
                    words++;
                    return readLine(row);
                case DARK_CLAUSE:
                    return readNumber(row, FIRST, 10, 99);
                default:
                    fields++;
                    return readNumber(row, FIRST, 0, TALES - 1) && readNumber(row, SECOND, 1, LAST_CHAPTER) && readLine(row);
            }
        }

        private int clauseSort() {
            if (text.isWord("thorn")) {
                return THORN;
            }
            if (text.isWord("holly")) {
                return HOLLY;
            }
            if (text.isWord("bramble")) {
                return BRAMBLE;
            }
            if (text.isWord("hazel")) {
                return HAZEL;
            }
            if (text.isWord("parish")) {
                return PARISH_CLAUSE;
            }
            if (text.isWord("gate")) {
                return GATE_CLAUSE;
            }
            if (text.isWord("word")) {
                return WORD_CLAUSE;
            }
            return text.isWord("dark") ? DARK_CLAUSE : NONE;
        }

        private boolean hasRoomFor(int sort) {
            switch (sort) {
                case PARISH_CLAUSE: return true;
                case DARK_CLAUSE: return true;
                case GATE_CLAUSE: return gates < MOST_GATES;
                case WORD_CLAUSE: return words < MOST_WORDS;
                default: return fields < MOST_FIELDS;
            }
        }

        private boolean readGate(int[] row) {
            if (!readNumber(row, FIRST, 0, fields - 1) || text.value() == row[FIRST]) {
                return false;
            }
            return readNumber(row, SECOND, 0, fields - 1) && readNumber(row, THIRD, 1, 30);
        }

        private boolean readNumber(int[] row, int where, int low, int high) {
            int value = text.value();
            if (value == NONE || value < low || value > high) {
                return false;
            }
            row[where] = value;
            text.step();
            return true;
        }

        private boolean readLine(int[] row) {
            int letters = text.end - text.start;
            if (text.sort != SMALL_LETTERS || letters > LINE_ROOM) {
                return false;
            }
            row[LINE_START] = text.start;
            row[LINE_SIZE] = letters;
            text.step();
            return true;
        }
    }

    /** What texts told: FIELDS, GATES, THE LEXICON, DARK; and the ways that follow. */
    private static final class Parish {
        int fields;
        final int[] kind = new int[MOST_FIELDS];
        final int[] tale = new int[MOST_FIELDS];
        final int[] chapter = new int[MOST_FIELDS];
        final int[] lineSize = new int[MOST_FIELDS];
        final int[][] line = new int[MOST_FIELDS][LINE_ROOM];
        int gates;
        final int[] gateFrom = new int[MOST_GATES];
        final int[] gateTo = new int[MOST_GATES];
        final int[] gateMinutes = new int[MOST_GATES];
        int words;
        final int[] wordSize = new int[MOST_WORDS];
        final int[][] word = new int[MOST_WORDS][LINE_ROOM];
        int dark = FIRST_DARK;
        final int[][] way = new int[MOST_FIELDS][MOST_FIELDS];

        boolean hasField(int field) {
            return field >= 0 && field < fields;
        }

        boolean hasPlace(int field, int place) {
            return hasField(field) && place >= 0 && place < lineSize[field];
        }

        boolean hasGate(int gate) {
            return gate >= 0 && gate < gates;
        }

        void tell(int[] row, Text text) {
            switch (row[SORT]) {
                case PARISH_CLAUSE:
                    fields = 0;
                    gates = 0;
                    words = 0;
                    dark = FIRST_DARK;
                    break;
                case GATE_CLAUSE:
                    tellGate(row);
                    break;
                case WORD_CLAUSE:
                    tellWord(row, text);
                    break;
                case DARK_CLAUSE:
                    dark = row[FIRST];
                    break;
                default:
                    tellField(row, text);
                    break;
            }
        }

        private void tellField(int[] row, Text text) {
            if (fields >= MOST_FIELDS) {
                return;
            }
            kind[fields] = row[SORT];
            tale[fields] = row[FIRST];
            chapter[fields] = row[SECOND];
            lineSize[fields] = row[LINE_SIZE];
            spell(row, text, line[fields]);
            fields++;
        }

        private void tellGate(int[] row) {
            if (gates >= MOST_GATES) {
                return;
            }
            gateFrom[gates] = row[FIRST];
            gateTo[gates] = row[SECOND];
            gateMinutes[gates] = row[THIRD];
            gates++;
        }

        private void tellWord(int[] row, Text text) {
            if (words >= MOST_WORDS) {
                return;
            }
            wordSize[words] = row[LINE_SIZE];
            spell(row, text, word[words]);
            words++;
        }

        private static void spell(int[] row, Text text, int[] letters) {
            for (int p = 0; p < row[LINE_SIZE]; p++) {
                letters[p] = text.letters[row[LINE_START] + p] - 'a';
            }
        }

        /** Finds FAR of all FIELDS anew. */
        void measure() {
            for (int a = 0; a < fields; a++) {
                for (int b = 0; b < fields; b++) {
                    way[a][b] = a == b ? 0 : NO_WAY;
                }
            }
            for (int g = 0; g < gates; g++) {
                int a = gateFrom[g];
                int b = gateTo[g];
                way[a][b] = Math.min(way[a][b], gateMinutes[g]);
                way[b][a] = way[a][b];
            }
            for (int over = 0; over < fields; over++) {
                for (int a = 0; a < fields; a++) {
                    for (int b = 0; b < fields; b++) {
                        way[a][b] = Math.min(way[a][b], way[a][over] + way[over][b]);
                    }
                }
            }
        }

        /** Where a GATE leads to from a FIELD; NONE: it is not there. */
        int otherSide(int gate, int field) {
            if (gateFrom[gate] == field) {
                return gateTo[gate];
            }
            return gateTo[gate] == field ? gateFrom[gate] : NONE;
        }

        int fieldsOf(int wanted) {
            int bits = 0;
            for (int f = 0; f < fields; f++) {
                if (tale[f] == wanted) {
                    bits |= 1 << f;
                }
            }
            return bits;
        }

        /** FIELDS (bits) to which one comes through a set of GATES alone. */
        int reachedBy(int gateSet, int from) {
            int reached = 1 << from;
            // A way goes through fewer GATES than there are FIELDS.
            for (int round = 1; round < fields; round++) {
                int ahead = reached;
                for (int g = 0; g < gates; g++) {
                    int both = 1 << gateFrom[g] | 1 << gateTo[g];
                    if ((gateSet >> g & 1) == 1 && (reached & both) != 0) {
                        reached |= both;
                    }
                }
                if (reached == ahead) {
                    return reached;
                }
            }
            return reached;
        }

        /** How many of a set of WORDS have one LETTER at a place, of the one that most have. */
        int mostAlike(int wordSet, int place) {
            int most = 0;
            for (int w = 0; w < words; w++) {
                if ((wordSet >> w & 1) == 1) {
                    most = Math.max(most, alike(wordSet, place, word[w][place]));
                }
            }
            return most;
        }

        private int alike(int wordSet, int place, int letter) {
            int alike = 0;
            for (int w = 0; w < words; w++) {
                if ((wordSet >> w & 1) == 1 && word[w][place] == letter) {
                    alike++;
                }
            }
            return alike;
        }
    }

    /** What can be undone and kept. */
    private static final class State {
        final int[] left = new int[MOST_FIELDS];
        int readFields;
        int minute;
        int day;
        int at;
        int wet;

        void begin(Parish told) {
            for (int f = 0; f < told.fields; f++) {
                left[f] = (1 << told.lineSize[f]) - 1;
            }
            readFields = 0;
            minute = 0;
            day = 0;
            at = 0;
            wet = 0;
        }

        void takeFrom(State other) {
            for (int f = 0; f < MOST_FIELDS; f++) {
                left[f] = other.left[f];
            }
            readFields = other.readFields;
            minute = other.minute;
            day = other.day;
            at = other.at;
            wet = other.wet;
        }

        boolean isLeft(int field, int place) {
            return (left[field] >> place & 1) == 1;
        }

        boolean isRead(int field) {
            return (readFields >> field & 1) == 1;
        }

        boolean canBeRead(Parish told, int field) {
            return told.kind[field] != HOLLY || wet < TOO_WET;
        }

        int readingMinutes(Parish told, int field) {
            return Hedges.minutes(told.kind[field], Integer.bitCount(left[field]));
        }

        int lettersLeft(Parish told) {
            int letters = 0;
            for (int f = 0; f < told.fields; f++) {
                letters += Integer.bitCount(left[f]);
            }
            return letters;
        }
    }

    /** The STATES ahead of the latest things done, in a ring. */
    private static final class Past {
        int size;
        private final State[] ring = new State[MOST_UNDONE];
        private int next;

        Past() {
            for (int s = 0; s < MOST_UNDONE; s++) {
                ring[s] = new State();
            }
        }

        void remember(State now) {
            ring[next].takeFrom(now);
            next = (next + 1) % MOST_UNDONE;
            size = Math.min(size + 1, MOST_UNDONE);
        }

        void restore(State now) {
            next = (next + MOST_UNDONE - 1) % MOST_UNDONE;
            size--;
            now.takeFrom(ring[next]);
        }
    }

    /** What is SEEN. */
    private static final class Sights {
        int size;
        private final int[] field = new int[MOST_SEEN];
        private final int[] letters = new int[MOST_SEEN];
        private final int[] minutes = new int[MOST_SEEN];

        void add(int seenField, int seenLetters, int seenMinutes) {
            if (size >= MOST_SEEN) {
                return;
            }
            field[size] = seenField;
            letters[size] = seenLetters;
            minutes[size] = seenMinutes;
            size++;
        }

        boolean agreeWith(int ofField, int kind) {
            for (int s = 0; s < size; s++) {
                if (field[s] == ofField && Hedges.minutes(kind, letters[s]) != minutes[s]) {
                    return false;
                }
            }
            return true;
        }
    }

    /** Finds the FEAST, by the fewest MINUTES in which each set of FIELDS can be READ. */
    private static final class Walk {
        final int[] row = new int[MOST_FIELDS];
        int size;
        int letters;
        private int open;
        private final int[] worth = new int[MOST_FIELDS];
        private final int[] reading = new int[MOST_FIELDS];
        // The fewest MINUTES for a set of FIELDS, from one that is not in it.
        private final int[][] fewest = new int[FIELD_SETS][MOST_FIELDS];
        // LETTERS of a set that can be READ before dark; NONE: it can't.
        private final int[] gain = new int[FIELD_SETS];

        void find(Parish told, State now) {
            weighFields(told, now);
            fillFewest(told);
            fillGain(told, now);
            pickBest();
            layRow(told, now);
        }

        /** A FIELD without LETTERS would only make the row longer. */
        private void weighFields(Parish told, State now) {
            open = 0;
            for (int f = 0; f < told.fields; f++) {
                worth[f] = Integer.bitCount(now.left[f]);
                reading[f] = now.readingMinutes(told, f);
                if (worth[f] > 0 && !now.isRead(f) && now.canBeRead(told, f)) {
                    open |= 1 << f;
                }
            }
        }

        private boolean isOpen(int set) {
            return (set & ~open) == 0;
        }

        private void fillFewest(Parish told) {
            for (int set = 0; set <= open; set++) {
                if (!isOpen(set)) {
                    continue;
                }
                for (int f = 0; f < told.fields; f++) {
                    if ((open >> f & 1) == 1 && (set >> f & 1) == 0) {
                        fewest[set][f] = fewestFrom(told, set, f);
                    }
                }
            }
        }

        private int fewestFrom(Parish told, int set, int from) {
            int least = set == 0 ? 0 : NO_WAY;
            for (int f = 0; f < told.fields; f++) {
                if ((set >> f & 1) == 1) {
                    int minutes = told.way[from][f] + reading[f] + fewest[set & ~(1 << f)][f];
                    least = Math.min(least, minutes);
                }
            }
            return least;
        }

        private void fillGain(Parish told, State now) {
            for (int set = 0; set <= open; set++) {
                gain[set] = NONE;
                if (isOpen(set) && now.minute + fewestFrom(told, set, now.at) <= told.dark) {
                    gain[set] = worthOf(told, set);
                }
            }
        }

        private int worthOf(Parish told, int set) {
            int sum = 0;
            for (int f = 0; f < told.fields; f++) {
                if ((set >> f & 1) == 1) {
                    sum += worth[f];
                }
            }
            return sum;
        }

        private void pickBest() {
            letters = 0;
            size = 0;
            for (int set = 0; set <= open; set++) {
                int fields = Integer.bitCount(set);
                if (gain[set] > letters || gain[set] == letters && fields < size) {
                    letters = gain[set];
                    size = fields;
                }
            }
        }

        /** The first of the best rows: at each place the least FIELD behind which it can go on. */
        private void layRow(Parish told, State now) {
            int done = 0;
            int from = now.at;
            int minute = now.minute;
            for (int k = 0; k < size; k++) {
                for (int f = 0; f < told.fields; f++) {
                    int then = minute + told.way[from][f] + reading[f];
                    if ((done >> f & 1) == 0 && canGoOn(told, done | 1 << f, f, then)) {
                        row[k] = f;
                        done |= 1 << f;
                        from = f;
                        minute = then;
                        break;
                    }
                }
            }
        }

        private boolean canGoOn(Parish told, int done, int at, int minute) {
            for (int set = done; set <= open; set++) {
                boolean isBest = gain[set] == letters && Integer.bitCount(set) == size;
                if (isBest && (set & done) == done && minute + fewest[set & ~done][at] <= told.dark) {
                    return true;
                }
            }
            return false;
        }
    }

    /** Sums for BIRD ODDS. */
    private static final class Odds {
        /** Of 10 ^ all ways, those by which of all LETTERS at most some are taken. */
        static long waysOfAtMost(int most, int all, int q) {
            long ways = 0;
            for (int taken = 0; taken <= most && taken <= all; taken++) {
                ways += choices(all, taken) * power(q, taken) * power(10 - q, all - taken);
            }
            return ways;
        }

        private static long choices(int all, int taken) {
            long choices = 1;
            for (int i = 1; i <= taken; i++) {
                choices = choices * (all - taken + i) / i;
            }
            return choices;
        }

        static long power(int base, int times) {
            long power = 1;
            for (int i = 0; i < times; i++) {
                power *= base;
            }
            return power;
        }

        static long commonDivisor(long one, long other) {
            long a = one;
            long b = other;
            // Numbers up to 10 ^ 8 need far fewer rounds.
            for (int round = 0; round < 100 && b != 0; round++) {
                long rest = a % b;
                a = b;
                b = rest;
            }
            return a;
        }
    }

    /** A row of numbers of a LANE, held here as wide as the widest. */
    private static final class Shelf {
        boolean isThere;
        int lane;
        int size;
        final int[] numbers = new int[SHELF_ROOM];

        void renew(int newLane, int newSize) {
            isThere = true;
            lane = newLane;
            size = newSize;
            for (int i = 0; i < SHELF_ROOM; i++) {
                numbers[i] = 0;
            }
        }

        /** Whether it has so many places from i on; n may be as large as an int can be. */
        boolean hasRoom(int i, int n) {
            return i >= 0 && i <= size && n >= 0 && n <= size - i;
        }

        void put(int i, int v) {
            switch (lane) {
                case 0:
                    numbers[i] = (byte) v;
                    break;
                case 1:
                    numbers[i] = (short) v;
                    break;
                default:
                    numbers[i] = v;
                    break;
            }
        }
    }
}
