/**
 * A will is read at a party with a band, and whoever is seen to grieve is out.
 * The party is read from a text; tunes, her name and ices change how sad its guests are. The calls tell who
 * would be out, by which programmes all stay, what can be known by what was seen, and what each gets.
 */
public final class PartyWill {
    public static final int BAD = -1, FULL = -2, FINDING = -3, STATE = -4, SPENT = -6, NONE = -9;

    private static final int FINE = 0, NOTHING = 1, BEYOND = 2, UNLIKE = 3, NOUGHT = 4, SIZE = 5;
    private static final int MISSING = -1;
    private static final int ROWS = 6, ROW_MOST = 40, TEXTS = 4, TEXT_MOST = 80, KEPT_MOST = 3;
    private static final int TUNES = 4, SILENCE = 0, POLKA = 1, WALTZ = 2, DOES_LEAST = -4, DOES_MOST = 5;
    private static final int KINDS = 6, GUEST = 0, DANCER = 1, STONY = 2, MOURNER = 3, UNCLE = 4, SPY = 5;
    private static final int GUESTS_MOST = 6, GRIEF_MOST = 20, ICE = 3, ICES_MOST = 7;
    private static final int NAME = 2, NAME_TO_STONY = 1, NAME_TO_MOURNER = 4;
    private static final int DEEDS_MOST = 40, PROGRAMME_MOST = 6, TURNS_MOST = 3, PAIRS_MOST = 8;
    private static final int PARTS_MOST = 999, LOTS_MOST = 20;
    private static final long LOT_FACTOR = 48271, LOT_MODULUS = 2147483647;
    private static final int BLANK = 32;

    private final int[][] rows = new int[ROWS][ROW_MOST];
    private final int[] rowSizes = new int[ROWS];
    private final byte[][] texts = new byte[TEXTS][TEXT_MOST];
    private final int[] textSizes = new int[TEXTS];
    private final Reader reader = new Reader();
    private Party party = new Party();
    private Party spare = new Party();
    private final Course course = new Course();
    private final Course[] kept = new Course[KEPT_MOST];
    private final int[] findingCounts = new int[SIZE + 1];
    private int lastFinding = 0;
    private int told = 0;
    private long toldUpper = 0;
    private long toldLower = 1;

    public PartyWill() {
        for (int r = 0; r < ROWS; r++) {
            rowSizes[r] = MISSING;
        }
        for (int t = 0; t < TEXTS; t++) {
            textSizes[t] = MISSING;
        }
        for (int k = 0; k < KEPT_MOST; k++) {
            kept[k] = new Course();
            kept[k].deeds = MISSING;
        }
    }

    // ---- 1 rows, texts, parties

    public int row(int r, int n) {
        if (!isRow(r) || n > ROW_MOST) {
            return BAD;
        }
        if (n < 0) {
            return found(SIZE);
        }
        makeRow(r, n);
        return n;
    }

    public int lay(int r, int i, int v) {
        if (!isRow(r)) {
            return BAD;
        }
        int wrong = rowPlaceFinding(r, i);
        if (wrong != FINE) {
            return found(wrong);
        }
        told = rows[r][i];
        rows[r][i] = v;
        return 1;
    }

    public int at(int r, int i) {
        if (!isRow(r)) {
            return BAD;
        }
        int wrong = rowPlaceFinding(r, i);
        if (wrong != FINE) {
            return found(wrong);
        }
        told = rows[r][i];
        return 1;
    }

    public int tear(int r) {
        if (!isRow(r)) {
            return BAD;
        }
        if (rowSizes[r] == MISSING) {
            return found(NOTHING);
        }
        rowSizes[r] = MISSING;
        return 1;
    }

    public int copy(int r, int i, int to, int j, int n) {
        if (!isRow(r) || !isRow(to)) {
            return BAD;
        }
        if (n < 0) {
            return found(SIZE);
        }
        if (rowSizes[r] == MISSING || rowSizes[to] == MISSING) {
            return found(NOTHING);
        }
        if (i < 0 || j < 0 || i > rowSizes[r] - n || j > rowSizes[to] - n) {
            return found(BEYOND);
        }
        System.arraycopy(rows[r], i, rows[to], j, n);
        return 1;
    }

    public int mean(int r) {
        if (!isRow(r)) {
            return BAD;
        }
        int size = rowSizes[r];
        if (size == MISSING) {
            return found(NOTHING);
        }
        if (size <= 0) {
            return found(NOUGHT);
        }
        long sum = 0;
        for (int i = 0; i < size; i++) {
            sum += rows[r][i];
        }
        told = (int) (sum / size);
        return 1;
    }

    public int text(int t, int n) {
        if (!isText(t) || n > TEXT_MOST) {
            return BAD;
        }
        if (n < 0) {
            return found(SIZE);
        }
        for (int i = 0; i < n; i++) {
            texts[t][i] = BLANK;
        }
        textSizes[t] = n;
        return n;
    }

    public int put(int t, int i, int v) {
        if (!isText(t)) {
            return BAD;
        }
        if (textSizes[t] == MISSING) {
            return found(NOTHING);
        }
        if (i < 0 || i >= textSizes[t]) {
            return found(BEYOND);
        }
        int before = texts[t][i];
        texts[t][i] = (byte) v;
        return before + 1000;
    }

    public int fault(int t) {
        if (!isText(t)) {
            return BAD;
        }
        if (textSizes[t] == MISSING) {
            return found(NOTHING);
        }
        return reader.faultOf(texts[t], textSizes[t], spare);
    }

    public int party(int t) {
        if (!isText(t)) {
            return BAD;
        }
        if (textSizes[t] == MISSING) {
            return found(NOTHING);
        }
        if (reader.faultOf(texts[t], textSizes[t], spare) != NONE) {
            return STATE;
        }
        Party read = spare;
        spare = party;
        party = read;
        course.begin(party.arrival());
        for (int k = 0; k < KEPT_MOST; k++) {
            kept[k].deeds = MISSING;
        }
        return party.size;
    }

    public int guest(int i, int what) {
        if (!isGuest(i) || what < 0 || what > 4) {
            return BAD;
        }
        told = guestTells(i, what);
        return 1;
    }

    public int mark(int i, int kind) {
        if (!isGuest(i) || kind <= GUEST || kind >= KINDS) {
            return BAD;
        }
        if (!isOfKind(party.kinds[i], kind)) {
            return found(UNLIKE);
        }
        if (!Hall.isIn(course.now, i)) {
            return 0;
        }
        switch (kind) {
            case DANCER: return party.tunesThatCheer(course.now, i);
            case STONY: return party.steepestRise(course.now, i);
            case MOURNER: return party.namesAMournerBears(course.now, i);
            case UNCLE: return party.sadderThan(course.now, i);
            default: return party.suspects(course.now, i);
        }
    }

    public int does(int tune, int v) {
        if (!isTune(tune) || v < DOES_LEAST || v > DOES_MOST) {
            return BAD;
        }
        if (party.size == 0) {
            return STATE;
        }
        int before = party.effects[tune];
        party.effects[tune] = v;
        return before;
    }

    // ---- 2 deeds

    public int tune(int t) {
        if (!isTune(t)) {
            return BAD;
        }
        if (party.size == 0) {
            return STATE;
        }
        if (course.deeds >= DEEDS_MOST) {
            return FULL;
        }
        int before = Hall.insiders(course.now);
        course.goOn(party.afterTune(course.now, t));
        return before & ~Hall.insiders(course.now);
    }

    public int say(int i) {
        int refused = deedRefusal(i);
        if (refused != FINE) {
            return refused;
        }
        course.goOn(party.afterName(course.now, i));
        return Hall.griefOf(course.now, i);
    }

    public int ice(int i) {
        int refused = deedRefusal(i);
        if (refused != FINE) {
            return refused;
        }
        course.goOn(party.afterIce(course.now, i));
        return Hall.griefOf(course.now, i);
    }

    public int undo(int n) {
        if (n < 0 || n > course.deeds) {
            return BAD;
        }
        int undone = course.deeds - n;
        course.goBackTo(n);
        return undone;
    }

    public int keep(int k) {
        if (!isKeepingPlace(k)) {
            return BAD;
        }
        if (party.size == 0) {
            return STATE;
        }
        kept[k].takeAll(course);
        return course.deeds;
    }

    public int on(int k) {
        if (!isKeepingPlace(k)) {
            return BAD;
        }
        if (kept[k].deeds == MISSING) {
            return found(NOTHING);
        }
        course.takeAll(kept[k]);
        return course.deeds;
    }

    // ---- 3 who would be out (aside)

    public int out(int t) {
        if (!isTune(t)) {
            return BAD;
        }
        long then = party.afterTune(course.now, t);
        told = Hall.griefOfAll(then);
        return Hall.insiders(course.now) & ~Hall.insiders(then);
    }

    public int safe() {
        if (party.size == 0) {
            return STATE;
        }
        int tunes = 0;
        for (int t = 0; t < TUNES; t++) {
            if (Hall.insiders(party.afterTune(course.now, t)) == Hall.insiders(course.now)) {
                tunes |= 1 << t;
            }
        }
        return tunes;
    }

    public int falls(int r) {
        if (!isRow(r)) {
            return BAD;
        }
        int wrong = programmeFinding(r);
        if (wrong != FINE) {
            return found(wrong);
        }
        long ahead = course.now;
        for (int p = 0; p < rowSizes[r]; p++) {
            long behind = party.afterTune(ahead, rows[r][p]);
            if (Hall.insiders(behind) != Hall.insiders(ahead)) {
                told = Hall.insiders(ahead) & ~Hall.insiders(behind);
                return p;
            }
            ahead = behind;
        }
        told = 0;
        return NONE;
    }

    public int grief(int i, int r) {
        if (!isGuest(i) || !isRow(r)) {
            return BAD;
        }
        int wrong = programmeFinding(r);
        if (wrong != FINE) {
            return found(wrong);
        }
        long hall = course.now;
        for (int p = 0; p < rowSizes[r]; p++) {
            hall = party.afterTune(hall, rows[r][p]);
        }
        return Hall.griefOf(hall, i);
    }

    // ---- 4 programmes

    public int stay(int n) {
        int refused = searchRefusal(n);
        if (refused != FINE) {
            return refused;
        }
        long ways = n == 0 ? 1 : 0;
        int openings = 0;
        for (int t = 0; t < TUNES && n > 0; t++) {
            long waysSo = Programmes.stayingBehind(party, course.now, t, n - 1);
            ways += waysSo;
            if (waysSo > 0) {
                openings |= 1 << t;
            }
        }
        told = openings;
        toldUpper = ways;
        toldLower = 1;
        return 1;
    }

    public int first(int n, int r) {
        int refused = isRow(r) ? searchRefusal(n) : BAD;
        if (refused != FINE) {
            return refused;
        }
        int code = Programmes.firstLeaving(party, course.now, n, Hall.howManyIn(course.now), 0);
        if (code == NONE) {
            return NONE;
        }
        makeProgramme(r, n, code);
        return n;
    }

    public int fewest(int n, int r) {
        int refused = isRow(r) ? searchRefusal(n) : BAD;
        if (refused != FINE) {
            return refused;
        }
        int most = Programmes.mostLeft(party, course.now, n);
        makeProgramme(r, n, Programmes.firstLeaving(party, course.now, n, most, 0));
        return Hall.howManyIn(course.now) - most;
    }

    public int gay() {
        if (party.size == 0) {
            return STATE;
        }
        for (int n = 0; n <= PROGRAMME_MOST; n++) {
            if (Programmes.canCheerAll(party, course.now, n)) {
                return n;
            }
        }
        return NONE;
    }

    public int ices(int r) {
        if (!isRow(r)) {
            return BAD;
        }
        if (party.size == 0) {
            return STATE;
        }
        int wrong = programmeFinding(r);
        if (wrong != FINE) {
            return found(wrong);
        }
        int all = 0;
        for (int i = 0; i < party.size; i++) {
            int own = icesNeededBy(i, r);
            if (own == NONE) {
                return NONE;
            }
            all += own;
        }
        return all;
    }

    public int aunt(int n) {
        if (n < 0 || n > TURNS_MOST) {
            return BAD;
        }
        if (party.size == 0) {
            return STATE;
        }
        return Hall.howManyIn(course.now) - Programmes.leftAtBandsTurn(party, course.now, n);
    }

    // ---- 5 evenings

    public int kinds(int i, int r) {
        int refused = eveningRefusal(i, r);
        if (refused != FINE) {
            return refused;
        }
        int grief = Hall.griefOf(course.now, i);
        int can = 0;
        for (int kind = GUEST; kind < KINDS; kind++) {
            if (party.wentSo(kind, grief, rows[r], rowSizes[r])) {
                can |= 1 << kind;
            }
        }
        return can;
    }

    public int came(int i, int r) {
        int refused = eveningRefusal(i, r);
        if (refused != FINE) {
            return refused;
        }
        int can = 0;
        for (int grief = 0; grief <= GRIEF_MOST; grief++) {
            if (party.wentSo(party.kinds[i], grief, rows[r], rowSizes[r])) {
                can |= 1 << grief;
            }
        }
        return can;
    }

    public int did(int i, int tune, int ahead, int behind) {
        if (!isGuest(i) || !isTune(tune) || !isGrief(ahead) || !isGrief(behind)) {
            return BAD;
        }
        int can = 0;
        for (int effect = DOES_LEAST; effect <= DOES_MOST; effect++) {
            if (Party.griefBehind(party.kinds[i], tune, effect, ahead) == behind) {
                can |= 1 << (effect - DOES_LEAST);
            }
        }
        return can;
    }

    public int wept(int set) {
        if (set < 0 || set >= 1 << party.size) {
            return BAD;
        }
        int can = 0;
        for (int i = 0; i < party.size; i++) {
            int saw = party.watchers(course.now, i);
            if (Hall.isIn(course.now, i) && saw != 0 && (saw & ~set) == 0) {
                can |= 1 << i;
            }
        }
        return can;
    }

    // ---- 6 the will

    public int gets(int i, int n) {
        if (!isGuest(i) || n < 1 || n > PARTS_MOST) {
            return BAD;
        }
        int heirs = Hall.howManyIn(course.now);
        if (!Hall.isIn(course.now, i) || heirs <= 0) {
            return 0;
        }
        int heirsAhead = Integer.bitCount(Hall.insiders(course.now) & ((1 << i) - 1));
        return n / heirs + (heirsAhead < n % heirs ? 1 : 0);
    }

    public int stops() {
        int best = NONE;
        int bestSize = GUESTS_MOST + 1;
        for (int set = 1; set < 1 << party.size; set++) {
            int size = Integer.bitCount(set);
            boolean allIn = (set & ~Hall.insiders(course.now)) == 0;
            if (allIn && size >= 2 && size < bestSize && griefOfSet(set) < party.clause * (size - 1)) {
                best = set;
                bestSize = size;
            }
        }
        return best;
    }

    // ---- 7 chances, lots

    public int odds(int n) {
        int refused = searchRefusal(n);
        if (refused != FINE) {
            return refused;
        }
        tellShare(Programmes.staying(party, course.now, n), n);
        return 1;
    }

    public int mid(int n) {
        int refused = searchRefusal(n);
        if (refused != FINE) {
            return refused;
        }
        long inAtFirst = (long) Hall.howManyIn(course.now) << (2 * n);
        tellShare(inAtFirst - Programmes.leftByAll(party, course.now, n), n);
        return 1;
    }

    public int lots(int n, int seed) {
        if (n < 1 || n > LOTS_MOST || seed < 1 || seed >= LOT_MODULUS) {
            return BAD;
        }
        if (party.size == 0) {
            return STATE;
        }
        if (course.deeds + n > DEEDS_MOST) {
            return FULL;
        }
        int before = Hall.howManyIn(course.now);
        long lot = seed;
        for (int k = 0; k < n; k++) {
            lot = lot * LOT_FACTOR % LOT_MODULUS;
            course.goOn(party.afterTune(course.now, (int) (lot / 16 % TUNES)));
        }
        return before - Hall.howManyIn(course.now);
    }

    // ---- 8 what is told

    public int asked() {
        return told;
    }

    public long upper() {
        return toldUpper;
    }

    public long lower() {
        return toldLower;
    }

    public int count(int what) {
        switch (what) {
            case 0: return party.size;
            case 1: return party.clause;
            case 2: return course.deeds;
            case 3: return Hall.howManyIn(course.now);
            case 4: return Hall.griefOfAll(course.now);
            case 5: return party.howManyAre(DANCER);
            case 6: return party.howManyAre(STONY);
            case 7: return howManyThere(rowSizes);
            case 8: return howManyThere(textSizes);
            case 9: return howManyKept();
            default: return BAD;
        }
    }

    public int finding() {
        return lastFinding;
    }

    public int findings(int f) {
        if (f < NOTHING || f > SIZE) {
            return BAD;
        }
        return findingCounts[f];
    }

    public long digest() {
        long h = 17;
        for (int what = 0; what <= 9; what++) {
            h = 31 * h + count(what);
        }
        h = digestParty(h);
        for (int r = 0; r < ROWS; r++) {
            h = 31 * h + rowSizes[r];
            for (int i = 0; i < rowSizes[r]; i++) {
                h = 31 * h + rows[r][i];
            }
        }
        for (int t = 0; t < TEXTS; t++) {
            h = 31 * h + textSizes[t];
            for (int i = 0; i < textSizes[t]; i++) {
                h = 31 * h + texts[t][i];
            }
        }
        return h;
    }

    // ---- what the calls share

    private int found(int which) {
        lastFinding = which;
        findingCounts[which]++;
        return FINDING;
    }

    private static boolean isRow(int r) {
        return r >= 0 && r < ROWS;
    }

    private static boolean isText(int t) {
        return t >= 0 && t < TEXTS;
    }

    private static boolean isKeepingPlace(int k) {
        return k >= 0 && k < KEPT_MOST;
    }

    private static boolean isTune(int t) {
        return t >= SILENCE && t < TUNES;
    }

    private static boolean isGrief(int grief) {
        return grief >= 0 && grief <= GRIEF_MOST;
    }

    private boolean isGuest(int i) {
        return i >= 0 && i < party.size;
    }

    private static boolean isOfKind(int kind, int wanted) {
        return kind == wanted || kind == UNCLE && wanted == DANCER || kind == SPY && wanted == STONY;
    }

    private void makeRow(int r, int n) {
        for (int i = 0; i < n; i++) {
            rows[r][i] = 0;
        }
        rowSizes[r] = n;
    }

    private void makeProgramme(int r, int n, int code) {
        makeRow(r, n);
        for (int p = 0; p < n; p++) {
            rows[r][p] = code >> (2 * (n - 1 - p)) & (TUNES - 1);
        }
    }

    private int rowPlaceFinding(int r, int i) {
        if (rowSizes[r] == MISSING) {
            return NOTHING;
        }
        return i < 0 || i >= rowSizes[r] ? BEYOND : FINE;
    }

    private int programmeFinding(int r) {
        if (rowSizes[r] == MISSING) {
            return NOTHING;
        }
        if (rowSizes[r] > PROGRAMME_MOST) {
            return SIZE;
        }
        for (int p = 0; p < rowSizes[r]; p++) {
            if (!isTune(rows[r][p])) {
                return UNLIKE;
            }
        }
        return FINE;
    }

    private int eveningFinding(int r) {
        int size = rowSizes[r];
        if (size == MISSING) {
            return NOTHING;
        }
        if (size % 2 != 0 || size > 2 * PAIRS_MOST) {
            return SIZE;
        }
        for (int p = 0; p + 1 < size; p += 2) {
            if (!isTune(rows[r][p]) || !isGrief(rows[r][p + 1])) {
                return UNLIKE;
            }
        }
        return FINE;
    }

    private int searchRefusal(int n) {
        if (n < 0 || n > PROGRAMME_MOST) {
            return BAD;
        }
        return party.size == 0 ? STATE : FINE;
    }

    /** What is done with one guest: a full party is told behind one that is out. */
    private int deedRefusal(int i) {
        if (!isGuest(i)) {
            return BAD;
        }
        if (!Hall.isIn(course.now, i)) {
            return STATE;
        }
        return course.deeds >= DEEDS_MOST ? FULL : FINE;
    }

    private int eveningRefusal(int i, int r) {
        if (!isGuest(i) || !isRow(r)) {
            return BAD;
        }
        if (!Hall.isIn(course.now, i)) {
            return STATE;
        }
        int wrong = eveningFinding(r);
        return wrong == FINE ? FINE : found(wrong);
    }

    private int guestTells(int i, int what) {
        switch (what) {
            case 0: return party.kinds[i];
            case 1: return Hall.griefOf(course.now, i);
            case 2: return Hall.isIn(course.now, i) ? 0 : 1;
            case 3: return party.sights[i];
            default: return party.watchers(course.now, i) != 0 ? 1 : 0;
        }
    }

    private int icesNeededBy(int i, int r) {
        if (!party.canFall(Hall.insiders(course.now), i)) {
            return 0;
        }
        // While nobody is out nobody's seers change, so that each guest can be asked alone.
        for (int taken = 0; taken <= ICES_MOST; taken++) {
            int grief = Party.bounded(Hall.griefOf(course.now, i) - ICE * taken);
            if (party.keepsTheClause(i, grief, rows[r], rowSizes[r])) {
                return taken;
            }
        }
        return NONE;
    }

    private int griefOfSet(int set) {
        int sum = 0;
        for (int i = 0; i < party.size; i++) {
            if ((set >> i & 1) != 0) {
                sum += Hall.griefOf(course.now, i);
            }
        }
        return sum;
    }

    /** Tells sum shared by the 4 to the power of n programmes: their number holds no factor but 2. */
    private void tellShare(long sum, int n) {
        toldUpper = sum;
        toldLower = 1L << (2 * n);
        for (int halved = 0; halved < 2 * n && toldUpper % 2 == 0; halved++) {
            toldUpper /= 2;
            toldLower /= 2;
        }
    }

    private static int howManyThere(int[] sizes) {
        int there = 0;
        for (int size : sizes) {
            if (size != MISSING) {
                there++;
            }
        }
        return there;
    }

    private int howManyKept() {
        int there = 0;
        for (Course place : kept) {
            if (place.deeds != MISSING) {
                there++;
            }
        }
        return there;
    }

    private long digestParty(long start) {
        long h = start;
        for (int t = 0; t < TUNES; t++) {
            h = 31 * h + party.effects[t];
        }
        for (int i = 0; i < party.size; i++) {
            for (int what = 0; what <= 4; what++) {
                h = 31 * h + guestTells(i, what);
            }
        }
        for (int k = 0; k < KEPT_MOST; k++) {
            h = 31 * h + kept[k].deeds;
        }
        return h;
    }

    /**
     * How all stand at one time, in one long, so that a search through programmes makes no objects:
     * five bits of grief for each guest, and above these a bit for each that is in.
     */
    private static final class Hall {
        private static final int GRIEF_BITS = 5, IN_SHIFT = GRIEF_BITS * GUESTS_MOST;
        private static final long GRIEF_MASK = 31;

        private static int griefOf(long hall, int guest) {
            return (int) (hall >> (GRIEF_BITS * guest) & GRIEF_MASK);
        }

        private static int griefOfAll(long hall) {
            int sum = 0;
            for (int i = 0; i < GUESTS_MOST; i++) {
                sum += griefOf(hall, i);
            }
            return sum;
        }

        private static boolean isIn(long hall, int guest) {
            return (hall >> (IN_SHIFT + guest) & 1) != 0;
        }

        private static int insiders(long hall) {
            return (int) (hall >> IN_SHIFT);
        }

        private static int howManyIn(long hall) {
            return Integer.bitCount(insiders(hall));
        }

        private static long withGrief(long hall, int guest, int grief) {
            int shift = GRIEF_BITS * guest;
            return hall & ~(GRIEF_MASK << shift) | (long) grief << shift;
        }

        private static long withNew(long hall, int guest, int grief) {
            return withGrief(hall, guest, grief) | 1L << (IN_SHIFT + guest);
        }

        private static long without(long hall, int guest) {
            return withGrief(hall, guest, 0) & ~(1L << (IN_SHIFT + guest));
        }
    }

    /** The deeds of a party: how all stood ahead of each, and how they stand now. */
    private static final class Course {
        private int deeds = 0;
        private long now = 0;
        private final long[] ahead = new long[DEEDS_MOST];

        private void begin(long hall) {
            deeds = 0;
            now = hall;
        }

        private void goOn(long hall) {
            if (deeds >= 0 && deeds < DEEDS_MOST) {
                ahead[deeds] = now;
                deeds++;
                now = hall;
            }
        }

        private void goBackTo(int deed) {
            if (deed >= 0 && deed < deeds) {
                now = ahead[deed];
                deeds = deed;
            }
        }

        private void takeAll(Course other) {
            deeds = other.deeds;
            now = other.now;
            System.arraycopy(other.ahead, 0, ahead, 0, DEEDS_MOST);
        }
    }

    /** What a party is told by: its guests as they come, who sees whom, what each tune does, the clause. */
    private static final class Party {
        private int size = 0;
        private int clause = 0;
        private final int[] effects = new int[TUNES];
        private final int[] kinds = new int[GUESTS_MOST];
        private final int[] griefsAtFirst = new int[GUESTS_MOST];
        private final int[] sights = new int[GUESTS_MOST];
        private final int[] seers = new int[GUESTS_MOST];

        private void clear() {
            size = 0;
            clause = 0;
            for (int i = 0; i < GUESTS_MOST; i++) {
                sights[i] = 0;
                seers[i] = 0;
            }
        }

        private long arrival() {
            long hall = 0;
            for (int i = 0; i < size; i++) {
                hall = Hall.withNew(hall, i, griefsAtFirst[i]);
            }
            return hall;
        }

        private static int bounded(int grief) {
            return Math.max(0, Math.min(GRIEF_MOST, grief));
        }

        private static int riseByTune(int kind, int tune, int effect) {
            switch (kind) {
                case DANCER: return riseOfDancer(tune, effect);
                case UNCLE: return tune == POLKA ? -GRIEF_MOST : riseOfDancer(tune, effect);
                case STONY: case SPY: return Math.min(effect, 1);
                case MOURNER: return effect > 0 ? 2 * effect : effect;
                default: return effect;
            }
        }

        private static int riseOfDancer(int tune, int effect) {
            return tune == POLKA || tune == WALTZ ? effect - 1 : effect;
        }

        private static int riseByName(int kind) {
            switch (kind) {
                case STONY: case SPY: return NAME_TO_STONY;
                case MOURNER: return NAME_TO_MOURNER;
                default: return NAME;
            }
        }

        private static int griefBehind(int kind, int tune, int effect, int grief) {
            return bounded(grief + riseByTune(kind, tune, effect));
        }

        private long afterTune(long hall, int tune) {
            long then = hall;
            for (int i = 0; i < size; i++) {
                if (Hall.isIn(hall, i)) {
                    int grief = griefBehind(kinds[i], tune, effects[tune], Hall.griefOf(hall, i));
                    then = Hall.withGrief(then, i, grief);
                }
            }
            return withoutTheSeen(then);
        }

        private long afterName(long hall, int guest) {
            int grief = bounded(Hall.griefOf(hall, guest) + riseByName(kinds[guest]));
            return withoutTheSeen(Hall.withGrief(hall, guest, grief));
        }

        private long afterIce(long hall, int guest) {
            int grief = bounded(Hall.griefOf(hall, guest) - ICE);
            return withoutTheSeen(Hall.withGrief(hall, guest, grief));
        }

        /** All are looked at at once: who goes still sees the others go. */
        private long withoutTheSeen(long hall) {
            int insiders = Hall.insiders(hall);
            long then = hall;
            for (int i = 0; i < size; i++) {
                if (Hall.griefOf(hall, i) > clause && canFall(insiders, i)) {
                    then = Hall.without(then, i);
                }
            }
            return then;
        }

        private boolean canFall(int insiders, int guest) {
            return (insiders >> guest & 1) != 0 && kinds[guest] != SPY && (seers[guest] & insiders) != 0;
        }

        private int watchers(long hall, int guest) {
            return seers[guest] & Hall.insiders(hall);
        }

        private boolean keepsTheClause(int guest, int griefAhead, int[] programme, int n) {
            int grief = griefAhead;
            for (int p = 0; p < n; p++) {
                grief = griefBehind(kinds[guest], programme[p], effects[programme[p]], grief);
                if (grief > clause) {
                    return false;
                }
            }
            return true;
        }

        private boolean wentSo(int kind, int griefAhead, int[] evening, int n) {
            int grief = griefAhead;
            for (int p = 0; p + 1 < n; p += 2) {
                grief = griefBehind(kind, evening[p], effects[evening[p]], grief);
                if (grief != evening[p + 1]) {
                    return false;
                }
            }
            return true;
        }

        private int howManyAre(int kind) {
            int there = 0;
            for (int i = 0; i < size; i++) {
                if (isOfKind(kinds[i], kind)) {
                    there++;
                }
            }
            return there;
        }

        private int tunesThatCheer(long hall, int guest) {
            int grief = Hall.griefOf(hall, guest);
            int tunes = 0;
            for (int t = 0; t < TUNES; t++) {
                if (griefBehind(kinds[guest], t, effects[t], grief) < grief) {
                    tunes++;
                }
            }
            return tunes;
        }

        private int steepestRise(long hall, int guest) {
            int grief = Hall.griefOf(hall, guest);
            int most = 0;
            for (int t = 0; t < TUNES; t++) {
                most = Math.max(most, griefBehind(kinds[guest], t, effects[t], grief) - grief);
            }
            return most;
        }

        private int namesAMournerBears(long hall, int guest) {
            return Math.max(0, clause - Hall.griefOf(hall, guest)) / NAME_TO_MOURNER;
        }

        private int sadderThan(long hall, int guest) {
            int sadder = 0;
            for (int i = 0; i < size; i++) {
                if (Hall.griefOf(hall, i) > Hall.griefOf(hall, guest)) {
                    sadder++;
                }
            }
            return sadder;
        }

        private int suspects(long hall, int guest) {
            int seen = 0;
            for (int i = 0; i < size; i++) {
                if ((sights[guest] >> i & 1) != 0 && Hall.griefOf(hall, i) > clause - 3) {
                    seen++;
                }
            }
            return seen;
        }
    }

    /** Reads a text sign by sign into a party. */
    private static final class Reader {
        private static final int OPENING = 0, CLAUSE = 1, EFFECT = 2, ITEM = 3, GRIEF = 4, SEER = 5;
        private static final int SEEN = 6;

        private int due = OPENING;
        private int tune = 0;
        private int seer = 0;
        private boolean sightsBegun = false;

        private int faultOf(byte[] text, int size, Party into) {
            due = OPENING;
            tune = 0;
            sightsBegun = false;
            into.clear();
            for (int place = 0; place < size; place++) {
                if (!takes(text[place], into)) {
                    return place;
                }
            }
            return due == ITEM && into.size > 0 ? NONE : size;
        }

        private boolean takes(int sign, Party into) {
            if (sign == BLANK) {
                return due == OPENING || due == ITEM;
            }
            switch (due) {
                case OPENING: return takesOpening(sign);
                case CLAUSE: return takesClause(sign - '0', into);
                case EFFECT: return takesEffect(sign - '0', into);
                case ITEM: return takesLetter(sign, into);
                case GRIEF: return takesGrief(sign - '0', into);
                case SEER: return takesSeer(sign - '0', into);
                default: return takesSeen(sign - '0', into);
            }
        }

        private boolean takesOpening(int sign) {
            due = CLAUSE;
            return sign == 'c';
        }

        private boolean takesClause(int figure, Party into) {
            into.clause = figure;
            due = EFFECT;
            return figure >= 1 && figure <= 9;
        }

        private boolean takesEffect(int figure, Party into) {
            if (!isFigure(figure) || !isTune(tune)) {
                return false;
            }
            into.effects[tune] = figure + DOES_LEAST;
            tune++;
            due = tune < TUNES ? EFFECT : ITEM;
            return true;
        }

        private boolean takesLetter(int sign, Party into) {
            if (sign == 'x') {
                sightsBegun = true;
                due = SEER;
                return into.size > 0;
            }
            int kind = kindByLetter(sign);
            if (kind == NONE || sightsBegun || into.size >= GUESTS_MOST) {
                return false;
            }
            into.kinds[into.size] = kind;
            due = GRIEF;
            return true;
        }

        private boolean takesGrief(int figure, Party into) {
            if (!isFigure(figure) || into.size >= GUESTS_MOST) {
                return false;
            }
            into.griefsAtFirst[into.size] = figure;
            into.size++;
            due = ITEM;
            return true;
        }

        private boolean takesSeer(int figure, Party into) {
            seer = figure;
            due = SEEN;
            return figure >= 0 && figure < into.size;
        }

        private boolean takesSeen(int figure, Party into) {
            boolean isOther = figure >= 0 && figure < into.size && figure != seer;
            if (!isOther || (into.sights[seer] >> figure & 1) != 0) {
                return false;
            }
            into.sights[seer] |= 1 << figure;
            into.seers[figure] |= 1 << seer;
            due = ITEM;
            return true;
        }

        private static boolean isFigure(int figure) {
            return figure >= 0 && figure <= 9;
        }

        private static int kindByLetter(int letter) {
            switch (letter) {
                case 'g': return GUEST;
                case 'd': return DANCER;
                case 's': return STONY;
                case 'm': return MOURNER;
                case 'u': return UNCLE;
                case 'y': return SPY;
                default: return NONE;
            }
        }
    }

    /** What programmes of some tunes lead to; each search carries how many tunes are left. */
    private static final class Programmes {
        private static long staying(Party party, long hall, int left) {
            if (left <= 0) {
                return 1;
            }
            long ways = 0;
            for (int t = 0; t < TUNES; t++) {
                ways += stayingBehind(party, hall, t, left - 1);
            }
            return ways;
        }

        private static long stayingBehind(Party party, long hall, int tune, int left) {
            long then = party.afterTune(hall, tune);
            return Hall.insiders(then) == Hall.insiders(hall) ? staying(party, then, left) : 0;
        }

        /**
         * The first programme that leaves so many in at least, or NONE: a number with two bits a tune, behind those
         * of code, the tunes played so far.
         */
        private static int firstLeaving(Party party, long hall, int left, int wanted, int code) {
            if (Hall.howManyIn(hall) < wanted) {
                return NONE;
            }
            if (left <= 0) {
                return code;
            }
            int first = NONE;
            for (int t = 0; t < TUNES && first == NONE; t++) {
                first = firstLeaving(party, party.afterTune(hall, t), left - 1, wanted, TUNES * code + t);
            }
            return first;
        }

        private static int mostLeft(Party party, long hall, int left) {
            if (left <= 0) {
                return Hall.howManyIn(hall);
            }
            int most = 0;
            for (int t = 0; t < TUNES && most < Hall.howManyIn(hall); t++) {
                most = Math.max(most, mostLeft(party, party.afterTune(hall, t), left - 1));
            }
            return most;
        }

        private static long leftByAll(Party party, long hall, int left) {
            if (left <= 0) {
                return Hall.howManyIn(hall);
            }
            long sum = 0;
            for (int t = 0; t < TUNES; t++) {
                sum += leftByAll(party, party.afterTune(hall, t), left - 1);
            }
            return sum;
        }

        private static boolean canCheerAll(Party party, long hall, int left) {
            if (left <= 0) {
                return Hall.griefOfAll(hall) == 0;
            }
            for (int t = 0; t < TUNES; t++) {
                long then = party.afterTune(hall, t);
                if (Hall.insiders(then) == Hall.insiders(hall) && canCheerAll(party, then, left - 1)) {
                    return true;
                }
            }
            return false;
        }

        private static int leftAtBandsTurn(Party party, long hall, int turns) {
            if (turns <= 0) {
                return Hall.howManyIn(hall);
            }
            int most = 0;
            for (int t = 0; t < TUNES; t++) {
                most = Math.max(most, leftAtAuntsTurn(party, party.afterTune(hall, t), turns));
            }
            return most;
        }

        private static int leftAtAuntsTurn(Party party, long hall, int turns) {
            int fewestLeft = Hall.howManyIn(hall);
            for (int i = 0; i < party.size; i++) {
                if (Hall.isIn(hall, i)) {
                    fewestLeft = Math.min(fewestLeft, leftAtBandsTurn(party, party.afterName(hall, i), turns - 1));
                }
            }
            return fewestLeft;
        }
    }
}
