import java.math.BigInteger;
import java.util.ArrayList;
import java.util.List;
import java.util.TreeMap;

/**
 * The document once more, as plainly as it can be said and by other ways than PartyWill takes: guests are
 * objects of their kinds, programmes are told one by one and played from their beginnings.
 */
final class PlainWill {
    static final int BAD = -1, FULL = -2, FINDING = -3, STATE = -4, NONE = -9;

    /** A guest of a kind; the kinds below it change what they do otherwise. */
    static class Guest {
        int grief;
        boolean out;
        int kind() { return 0; }
        boolean isA(int kind) { return kind == kind(); }
        int rise(int tune, int does) { return does; }
        int riseByName() { return 2; }
        boolean everFalls() { return true; }
        void rise(int by) { grief = Math.min(20, Math.max(0, grief + by)); }
    }

    static class Dancer extends Guest {
        @Override int kind() { return 1; }
        @Override boolean isA(int kind) { return kind == 1 || super.isA(kind); }
        @Override int rise(int tune, int does) { return super.rise(tune, does) - (tune == 1 || tune == 2 ? 1 : 0); }
    }

    static class Stony extends Guest {
        @Override int kind() { return 2; }
        @Override boolean isA(int kind) { return kind == 2 || super.isA(kind); }
        @Override int rise(int tune, int does) { return does > 1 ? 1 : does; }
        @Override int riseByName() { return 1; }
    }

    static class Mourner extends Guest {
        @Override int kind() { return 3; }
        @Override int rise(int tune, int does) { return does > 0 ? does + does : does; }
        @Override int riseByName() { return 4; }
    }

    static class Uncle extends Dancer {
        @Override int kind() { return 4; }
        @Override int rise(int tune, int does) { return tune == 1 ? -grief : super.rise(tune, does); }
    }

    static class Spy extends Stony {
        @Override int kind() { return 5; }
        @Override boolean everFalls() { return false; }
    }

    static Guest guestOf(int kind, int grief, boolean out) {
        Guest g = kind == 0 ? new Guest() : kind == 1 ? new Dancer() : kind == 2 ? new Stony()
            : kind == 3 ? new Mourner() : kind == 4 ? new Uncle() : new Spy();
        g.grief = grief;
        g.out = out;
        return g;
    }

    /** All guests at one time. */
    final class Room {
        final List<Guest> guests = new ArrayList<>();

        Room same() {
            Room room = new Room();
            for (Guest g : guests) {
                room.guests.add(guestOf(g.kind(), g.grief, g.out));
            }
            return room;
        }

        boolean seen(int i) {
            for (int j = 0; j < guests.size(); j++) {
                if (sees[j][i] && !guests.get(j).out) {
                    return true;
                }
            }
            return false;
        }

        void look() {
            List<Guest> going = new ArrayList<>();
            for (int i = 0; i < guests.size(); i++) {
                Guest g = guests.get(i);
                if (!g.out && g.grief > clause && seen(i) && g.everFalls()) {
                    going.add(g);
                }
            }
            for (Guest g : going) {
                g.out = true;
                g.grief = 0;
            }
        }

        Room played(int... tunes) {
            Room room = same();
            for (int t : tunes) {
                for (Guest g : room.guests) {
                    if (!g.out) {
                        g.rise(g.rise(t, does[t]));
                    }
                }
                room.look();
            }
            return room;
        }

        Room named(int i) {
            Room room = same();
            room.guests.get(i).rise(room.guests.get(i).riseByName());
            room.look();
            return room;
        }

        Room iced(int i) {
            Room room = same();
            room.guests.get(i).rise(-3);
            room.look();
            return room;
        }

        int outs() {
            int bits = 0;
            for (int i = 0; i < guests.size(); i++) {
                bits |= guests.get(i).out ? 1 << i : 0;
            }
            return bits;
        }

        int ins() {
            return ((1 << guests.size()) - 1) ^ outs();
        }

        int newOuts(Room ahead) {
            return outs() & ~ahead.outs();
        }

        int all() {
            int sum = 0;
            for (Guest g : guests) {
                sum += g.grief;
            }
            return sum;
        }
    }

    private final TreeMap<Integer, int[]> rows = new TreeMap<>();
    private final TreeMap<Integer, byte[]> texts = new TreeMap<>();
    private final TreeMap<Integer, List<Room>> kept = new TreeMap<>();
    private int clause = 0;
    private int[] does = new int[4];
    private boolean[][] sees = new boolean[6][6];
    /** The rooms ahead of each deed, and the room now as the last one. */
    private List<Room> rooms = new ArrayList<>(List.of(new Room()));
    private int asked = 0;
    private BigInteger upper = BigInteger.ZERO;
    private BigInteger lower = BigInteger.ONE;
    private int finding = 0;
    private final int[] findings = new int[6];

    private Room now() { return rooms.get(rooms.size() - 1); }
    private int size() { return now().guests.size(); }
    private boolean isGuest(int i) { return i >= 0 && i < size(); }
    private static boolean within(int v, int least, int most) { return v >= least && v <= most; }

    private int found(int f) {
        finding = f;
        findings[f]++;
        return FINDING;
    }

    private int tell(int v) {
        asked = v;
        return 1;
    }

    int row(int r, int n) {
        if (!within(r, 0, 5) || n > 40) { return BAD; }
        if (n < 0) { return found(5); }
        rows.put(r, new int[n]);
        return n;
    }

    int lay(int r, int i, int v) {
        int got = at(r, i);
        if (got == 1) { rows.get(r)[i] = v; }
        return got;
    }

    int at(int r, int i) {
        if (!within(r, 0, 5)) { return BAD; }
        if (!rows.containsKey(r)) { return found(1); }
        if (!within(i, 0, rows.get(r).length - 1)) { return found(2); }
        return tell(rows.get(r)[i]);
    }

    int tear(int r) {
        if (!within(r, 0, 5)) { return BAD; }
        return rows.remove(r) == null ? found(1) : 1;
    }

    int copy(int r, int i, int to, int j, int n) {
        if (!within(r, 0, 5) || !within(to, 0, 5)) { return BAD; }
        if (n < 0) { return found(5); }
        if (!rows.containsKey(r) || !rows.containsKey(to)) { return found(1); }
        int[] from = rows.get(r).clone();
        int[] there = rows.get(to);
        if (i < 0 || j < 0 || (long) i + n > from.length || (long) j + n > there.length) { return found(2); }
        for (int k = 0; k < n; k++) {
            there[j + k] = from[i + k];
        }
        return 1;
    }

    int mean(int r) {
        if (!within(r, 0, 5)) { return BAD; }
        if (!rows.containsKey(r)) { return found(1); }
        if (rows.get(r).length == 0) { return found(4); }
        BigInteger sum = BigInteger.ZERO;
        for (int v : rows.get(r)) {
            sum = sum.add(BigInteger.valueOf(v));
        }
        return tell(sum.divide(BigInteger.valueOf(rows.get(r).length)).intValueExact());
    }

    int text(int t, int n) {
        if (!within(t, 0, 3) || n > 80) { return BAD; }
        if (n < 0) { return found(5); }
        byte[] blanks = new byte[n];
        java.util.Arrays.fill(blanks, (byte) ' ');
        texts.put(t, blanks);
        return n;
    }

    int put(int t, int i, int v) {
        if (!within(t, 0, 3)) { return BAD; }
        if (!texts.containsKey(t)) { return found(1); }
        if (!within(i, 0, texts.get(t).length - 1)) { return found(2); }
        int was = texts.get(t)[i];
        texts.get(t)[i] = (byte) v;
        return 1000 + was;
    }

    int fault(int t) {
        if (!within(t, 0, 3)) { return BAD; }
        if (!texts.containsKey(t)) { return found(1); }
        return new Reading(texts.get(t)).fault;
    }

    int party(int t) {
        if (!within(t, 0, 3)) { return BAD; }
        if (!texts.containsKey(t)) { return found(1); }
        Reading reading = new Reading(texts.get(t));
        if (reading.fault != NONE) { return STATE; }
        clause = reading.clause;
        does = reading.does;
        sees = reading.sees;
        Room room = new Room();
        room.guests.addAll(reading.guests);
        rooms = new ArrayList<>(List.of(room));
        kept.clear();
        return size();
    }

    /** Reads a text from left to right, item by item. */
    private static final class Reading {
        final byte[] text;
        int place = 0;
        int fault = NONE;
        int clause = 0;
        final int[] does = new int[4];
        final boolean[][] sees = new boolean[6][6];
        final List<Guest> guests = new ArrayList<>();

        Reading(byte[] text) {
            this.text = text;
            if (!opening()) {
                fault = place;
                return;
            }
            boolean sighted = false;
            blanks();
            while (place < text.length) {
                int kind = "gdsmuy".indexOf(text[place]);
                boolean isSight = text[place] == 'x';
                sighted |= isSight;
                boolean can = isSight ? !guests.isEmpty() : kind >= 0 && !sighted && guests.size() < 6;
                if (!can || !(isSight ? sight() : guest(kind))) {
                    fault = place;
                    return;
                }
                blanks();
            }
            if (guests.isEmpty()) {
                fault = place;
            }
        }

        void blanks() {
            while (place < text.length && text[place] == ' ') {
                place++;
            }
        }

        /** The figure at the place, which is left behind if it is one of these. */
        int figure(int least, int most) {
            int v = place < text.length ? text[place] - '0' : -1;
            if (v < least || v > most) {
                return -1;
            }
            place++;
            return v;
        }

        boolean opening() {
            blanks();
            if (place >= text.length || text[place] != 'c') {
                return false;
            }
            place++;
            clause = figure(1, 9);
            boolean sound = clause > 0;
            for (int t = 0; t < 4 && sound; t++) {
                int v = figure(0, 9);
                sound = v >= 0;
                does[t] = v - 4;
            }
            return sound;
        }

        boolean guest(int kind) {
            place++;
            int grief = figure(0, 9);
            if (grief < 0) {
                return false;
            }
            guests.add(guestOf(kind, grief, false));
            return true;
        }

        boolean sight() {
            place++;
            int one = figure(0, guests.size() - 1);
            if (one < 0) {
                return false;
            }
            int other = figure(0, guests.size() - 1);
            if (other < 0) {
                return false;
            }
            if (other == one || sees[one][other]) {
                place--;
                return false;
            }
            sees[one][other] = true;
            return true;
        }
    }

    private int guestValue(int i, int what) {
        Guest g = now().guests.get(i);
        if (what == 0) { return g.kind(); }
        if (what == 1) { return g.grief; }
        if (what == 2) { return g.out ? 1 : 0; }
        if (what == 4) { return now().seen(i) ? 1 : 0; }
        int bits = 0;
        for (int j = 0; j < size(); j++) {
            bits |= sees[i][j] ? 1 << j : 0;
        }
        return bits;
    }

    int guest(int i, int what) {
        return isGuest(i) && within(what, 0, 4) ? tell(guestValue(i, what)) : BAD;
    }

    int mark(int i, int kind) {
        if (!isGuest(i) || !within(kind, 1, 5)) { return BAD; }
        Guest g = now().guests.get(i);
        if (!g.isA(kind)) { return found(3); }
        int n = 0;
        for (int t = 0; t < 4 && !g.out && kind <= 2; t++) {
            Guest other = guestOf(g.kind(), g.grief, false);
            other.rise(other.rise(t, does[t]));
            n = kind == 2 ? Math.max(n, other.grief - g.grief) : n + (other.grief < g.grief ? 1 : 0);
        }
        for (int k = 1; k <= 9 && !g.out && kind == 3; k++) {
            n += g.grief + 4 * k <= clause ? 1 : 0;
        }
        for (int j = 0; j < size() && !g.out && kind >= 4; j++) {
            int other = now().guests.get(j).grief;
            n += kind == 4 && other > g.grief || kind == 5 && sees[i][j] && other > clause - 3 ? 1 : 0;
        }
        return n;
    }

    int does(int tune, int v) {
        if (!within(tune, 0, 3) || !within(v, -4, 5)) { return BAD; }
        if (size() == 0) { return STATE; }
        int was = does[tune];
        does[tune] = v;
        return was;
    }

    private boolean full() { return rooms.size() > 40; }

    int tune(int t) {
        if (!within(t, 0, 3)) { return BAD; }
        if (size() == 0) { return STATE; }
        if (full()) { return FULL; }
        rooms.add(now().played(t));
        return now().newOuts(rooms.get(rooms.size() - 2));
    }

    int say(int i) {
        if (!isGuest(i)) { return BAD; }
        if (now().guests.get(i).out) { return STATE; }
        if (full()) { return FULL; }
        rooms.add(now().named(i));
        return now().guests.get(i).grief;
    }

    int ice(int i) {
        if (!isGuest(i)) { return BAD; }
        if (now().guests.get(i).out) { return STATE; }
        if (full()) { return FULL; }
        rooms.add(now().iced(i));
        return now().guests.get(i).grief;
    }

    int undo(int n) {
        if (!within(n, 0, rooms.size() - 1)) { return BAD; }
        int undone = rooms.size() - 1 - n;
        rooms = new ArrayList<>(rooms.subList(0, n + 1));
        return undone;
    }

    int keep(int k) {
        if (!within(k, 0, 2)) { return BAD; }
        if (size() == 0) { return STATE; }
        kept.put(k, new ArrayList<>(rooms));
        return rooms.size() - 1;
    }

    int on(int k) {
        if (!within(k, 0, 2)) { return BAD; }
        if (!kept.containsKey(k)) { return found(1); }
        rooms = new ArrayList<>(kept.get(k));
        return rooms.size() - 1;
    }

    int out(int t) {
        if (!within(t, 0, 3)) { return BAD; }
        asked = now().played(t).all();
        return now().played(t).newOuts(now());
    }

    int safe() {
        if (size() == 0) { return STATE; }
        int bits = 0;
        for (int t = 0; t < 4; t++) {
            bits |= now().played(t).newOuts(now()) == 0 ? 1 << t : 0;
        }
        return bits;
    }

    private int programmeFinding(int r) {
        if (!rows.containsKey(r)) { return 1; }
        if (rows.get(r).length > 6) { return 5; }
        for (int v : rows.get(r)) {
            if (!within(v, 0, 3)) { return 3; }
        }
        return 0;
    }

    int falls(int r) {
        if (!within(r, 0, 5)) { return BAD; }
        if (programmeFinding(r) != 0) { return found(programmeFinding(r)); }
        for (int n = 1; n <= rows.get(r).length; n++) {
            Room room = now().played(java.util.Arrays.copyOf(rows.get(r), n));
            if (room.newOuts(now()) != 0) {
                asked = room.newOuts(now());
                return n - 1;
            }
        }
        asked = 0;
        return NONE;
    }

    int grief(int i, int r) {
        if (!isGuest(i) || !within(r, 0, 5)) { return BAD; }
        if (programmeFinding(r) != 0) { return found(programmeFinding(r)); }
        return now().played(rows.get(r)).guests.get(i).grief;
    }

    /** All programmes of n tunes in their order. */
    private static List<int[]> programmes(int n) {
        List<int[]> all = new ArrayList<>();
        for (int code = 0; code < 1 << (2 * n); code++) {
            int[] programme = new int[n];
            for (int p = 0; p < n; p++) {
                programme[p] = code >> (2 * (n - 1 - p)) & 3;
            }
            all.add(programme);
        }
        return all;
    }

    private int refusedProgramme(int n, int r) {
        if (!within(n, 0, 6) || !within(r, 0, 5)) { return BAD; }
        return size() == 0 ? STATE : 0;
    }

    private int fallenBy(int[] programme) {
        return Integer.bitCount(now().played(programme).newOuts(now()));
    }

    private void share(long up, long low) {
        BigInteger common = BigInteger.valueOf(up).gcd(BigInteger.valueOf(low));
        upper = BigInteger.valueOf(up).divide(common);
        lower = BigInteger.valueOf(low).divide(common);
    }

    int stay(int n) {
        if (refusedProgramme(n, 0) != 0) { return refusedProgramme(n, 0); }
        int ways = 0;
        int bits = 0;
        for (int[] programme : programmes(n)) {
            if (fallenBy(programme) == 0) {
                ways++;
                bits |= n > 0 ? 1 << programme[0] : 0;
            }
        }
        share(ways, 1);
        return tell(bits);
    }

    int first(int n, int r) {
        if (refusedProgramme(n, r) != 0) { return refusedProgramme(n, r); }
        for (int[] programme : programmes(n)) {
            if (fallenBy(programme) == 0) {
                rows.put(r, programme);
                return n;
            }
        }
        return NONE;
    }

    int fewest(int n, int r) {
        if (refusedProgramme(n, r) != 0) { return refusedProgramme(n, r); }
        int least = 7;
        for (int[] programme : programmes(n)) {
            if (fallenBy(programme) < least) {
                least = fallenBy(programme);
                rows.put(r, programme);
            }
        }
        return least;
    }

    int gay() {
        if (size() == 0) { return STATE; }
        for (int n = 0; n <= 6; n++) {
            for (int[] programme : programmes(n)) {
                Room room = now().played(programme);
                if (room.newOuts(now()) == 0 && room.all() == 0) { return n; }
            }
        }
        return NONE;
    }

    int ices(int r) {
        if (!within(r, 0, 5)) { return BAD; }
        if (size() == 0) { return STATE; }
        if (programmeFinding(r) != 0) { return found(programmeFinding(r)); }
        Room cheered = now().same();
        int taken = 0;
        // Who falls first by the ices so far needs one more at least: till nobody falls, or nothing helps.
        for (int more = 0; more <= 60; more++) {
            int falling = 0;
            for (int n = 1; n <= rows.get(r).length && falling == 0; n++) {
                falling = cheered.played(java.util.Arrays.copyOf(rows.get(r), n)).newOuts(cheered);
            }
            if (falling == 0) { return taken; }
            Guest g = cheered.guests.get(Integer.numberOfTrailingZeros(falling));
            if (g.grief == 0) { return NONE; }
            g.rise(-3);
            taken++;
        }
        return NONE;
    }

    int aunt(int n) {
        if (!within(n, 0, 3)) { return BAD; }
        if (size() == 0) { return STATE; }
        return band(now(), n) - Integer.bitCount(now().outs());
    }

    private int band(Room room, int turns) {
        if (turns == 0) { return Integer.bitCount(room.outs()); }
        int best = 7;
        for (int t = 0; t < 4; t++) {
            Room then = room.played(t);
            int worst = then.ins() == 0 ? band(then, turns - 1) : 0;
            for (int i = 0; i < size(); i++) {
                worst = then.guests.get(i).out ? worst : Math.max(worst, band(then.named(i), turns - 1));
            }
            best = Math.min(best, worst);
        }
        return best;
    }

    private int refusedEvening(int i, int r) {
        if (!isGuest(i) || !within(r, 0, 5)) { return BAD; }
        if (now().guests.get(i).out) { return STATE; }
        if (!rows.containsKey(r)) { return found(1); }
        int[] pairs = rows.get(r);
        if (pairs.length % 2 == 1 || pairs.length / 2 > 8) { return found(5); }
        for (int p = 0; p < pairs.length; p++) {
            if (!within(pairs[p], 0, p % 2 == 0 ? 3 : 20)) { return found(3); }
        }
        return 0;
    }

    private boolean fits(Guest g, int[] pairs) {
        boolean sound = true;
        for (int p = 0; p < pairs.length; p += 2) {
            g.rise(g.rise(pairs[p], does[pairs[p]]));
            sound &= g.grief == pairs[p + 1];
        }
        return sound;
    }

    int kinds(int i, int r) {
        int refused = refusedEvening(i, r);
        if (refused != 0) { return refused; }
        int bits = 0;
        for (int kind = 0; kind < 6; kind++) {
            bits |= fits(guestOf(kind, now().guests.get(i).grief, false), rows.get(r)) ? 1 << kind : 0;
        }
        return bits;
    }

    int came(int i, int r) {
        int refused = refusedEvening(i, r);
        if (refused != 0) { return refused; }
        int bits = 0;
        for (int grief = 0; grief <= 20; grief++) {
            bits |= fits(guestOf(now().guests.get(i).kind(), grief, false), rows.get(r)) ? 1 << grief : 0;
        }
        return bits;
    }

    int did(int i, int tune, int ahead, int behind) {
        if (!isGuest(i) || !within(tune, 0, 3) || !within(ahead, 0, 20) || !within(behind, 0, 20)) { return BAD; }
        int bits = 0;
        for (int bit = 0; bit <= 9; bit++) {
            Guest g = guestOf(now().guests.get(i).kind(), ahead, false);
            g.rise(g.rise(tune, bit - 4));
            bits |= g.grief == behind ? 1 << bit : 0;
        }
        return bits;
    }

    int wept(int set) {
        if (!within(set, 0, (1 << size()) - 1)) { return BAD; }
        int bits = 0;
        for (int i = 0; i < size(); i++) {
            boolean others = false;
            boolean some = false;
            for (int j = 0; j < size(); j++) {
                boolean saw = sees[j][i] && !now().guests.get(j).out;
                some |= saw;
                others |= saw && (set >> j & 1) == 0;
            }
            bits |= some && !others && !now().guests.get(i).out ? 1 << i : 0;
        }
        return bits;
    }

    int gets(int i, int n) {
        if (!isGuest(i) || !within(n, 1, 999)) { return BAD; }
        int[] parts = new int[6];
        int left = n;
        while (left > 0 && now().ins() != 0) {
            for (int j = 0; j < size() && left > 0; j++) {
                if (!now().guests.get(j).out) {
                    parts[j]++;
                    left--;
                }
            }
        }
        return parts[i];
    }

    int stops() {
        for (int many = 2; many <= size(); many++) {
            for (int set = 0; set < 64; set++) {
                int sum = 0;
                for (int i = 0; i < size(); i++) {
                    sum += (set >> i & 1) * now().guests.get(i).grief;
                }
                boolean fit = Integer.bitCount(set) == many && (set & now().ins()) == set;
                if (fit && sum < clause * (many - 1)) { return set; }
            }
        }
        return NONE;
    }

    int odds(int n) {
        if (refusedProgramme(n, 0) != 0) { return refusedProgramme(n, 0); }
        int ways = 0;
        for (int[] programme : programmes(n)) {
            ways += fallenBy(programme) == 0 ? 1 : 0;
        }
        share(ways, programmes(n).size());
        return 1;
    }

    int mid(int n) {
        if (refusedProgramme(n, 0) != 0) { return refusedProgramme(n, 0); }
        int sum = 0;
        for (int[] programme : programmes(n)) {
            sum += fallenBy(programme);
        }
        share(sum, programmes(n).size());
        return 1;
    }

    int lots(int n, int seed) {
        if (!within(n, 1, 20) || !within(seed, 1, 2147483646)) { return BAD; }
        if (size() == 0) { return STATE; }
        if (rooms.size() - 1 + n > 40) { return FULL; }
        BigInteger lot = BigInteger.valueOf(seed);
        int sum = 0;
        for (int k = 0; k < n; k++) {
            lot = lot.multiply(BigInteger.valueOf(48271)).mod(BigInteger.valueOf(2147483647));
            sum += Integer.bitCount(tune(lot.shiftRight(4).intValue() & 3));
        }
        return sum;
    }

    int asked() { return asked; }
    long upper() { return upper.longValueExact(); }
    long lower() { return lower.longValueExact(); }
    int finding() { return finding; }
    int findings(int f) { return within(f, 1, 5) ? findings[f] : BAD; }

    int count(int what) {
        int dancers = 0;
        int stony = 0;
        for (Guest g : now().guests) {
            dancers += g.isA(1) ? 1 : 0;
            stony += g.isA(2) ? 1 : 0;
        }
        int[] all = {size(), clause, rooms.size() - 1, Integer.bitCount(now().ins()), now().all(), dancers, stony,
            rows.size(), texts.size(), kept.size()};
        return within(what, 0, 9) ? all[what] : BAD;
    }

    long digest() {
        List<Integer> all = new ArrayList<>();
        for (int what = 0; what < 10; what++) { all.add(count(what)); }
        for (int v : does) { all.add(v); }
        for (int i = 0; i < size(); i++) {
            for (int what = 0; what < 5; what++) { all.add(guestValue(i, what)); }
        }
        for (int k = 0; k < 3; k++) { all.add(kept.containsKey(k) ? kept.get(k).size() - 1 : -1); }
        for (int r = 0; r < 6; r++) {
            all.add(rows.containsKey(r) ? rows.get(r).length : -1);
            for (int v : rows.getOrDefault(r, new int[0])) { all.add(v); }
        }
        for (int t = 0; t < 4; t++) {
            all.add(texts.containsKey(t) ? texts.get(t).length : -1);
            for (byte v : texts.getOrDefault(t, new byte[0])) { all.add((int) v); }
        }
        long h = 17;
        for (int v : all) { h = 31 * h + v; }
        return h;
    }
}
