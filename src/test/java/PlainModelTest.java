/** Runs of calls drawn by lots, each answered by PartyWill as by the plain model. */
public final class PlainModelTest {
    /** What an object answers behind its 512th call is free, so a run ends while another round fits. */
    private static final int RUNS = 1600, CALLS_MOST = 512, ROUND_MOST = 120;
    private static final int[] FAR = {-1, 6, 7, 21, 41, 81, 1000, Integer.MAX_VALUE, Integer.MIN_VALUE};

    private static long lot = 1;
    private static int calls = 0;

    public static void main(String[] args) {
        for (int run = 0; run < RUNS; run++) {
            lot = 1 + run * 7919L;
            PartyWill x = new PartyWill();
            PlainWill y = new PlainWill();
            StringBuilder party = new StringBuilder();
            calls = 0;
            for (int k = 0; calls + ROUND_MOST <= CALLS_MOST; k++) {
                if (k == 3 || draw(60) == 0) {
                    party.setLength(0);
                    party.append(party());
                    write(x, y, draw(4), party.toString());
                }
                if (draw(6) == 0) {
                    pairs(x, y);
                }
                if (draw(8) == 0) {
                    goBack(x, y);
                }
                String call = "run " + run + ", call " + k + ", party " + party + ": ";
                if (!once(call, x, y)) {
                    break;
                }
            }
        }
        Checks.end();
    }

    private static int draw(int n) {
        lot = lot * 48271 % 2147483647;
        return (int) (lot / 8 % n);
    }

    /** Mostly 0 to most; now and then a number that may be none. */
    private static int number(int most) {
        return draw(25) == 0 ? FAR[draw(FAR.length)] : draw(most + 1);
    }

    private static String party() {
        StringBuilder signs = new StringBuilder();
        signs.append(blanks()).append('c').append(1 + draw(9));
        int cheer = draw(3);
        for (int t = 0; t < 4; t++) {
            signs.append(cheer == 0 ? draw(10) : 2 + draw(5));
        }
        int guests = 1 + draw(6);
        for (int i = 0; i < guests; i++) {
            signs.append(blanks()).append("gdsmuy".charAt(draw(6))).append(draw(draw(2) == 0 ? 10 : 4));
        }
        for (int a = 0; a < guests; a++) {
            for (int b = 0; b < guests; b++) {
                if (a != b && draw(5) < 2) {
                    signs.append('x').append(a).append(b).append(blanks());
                }
            }
        }
        if (draw(3) == 0) {
            signs.setCharAt(draw(signs.length()), " cxgdsmuyz0123456789".charAt(draw(20)));
        }
        if (draw(8) == 0) {
            signs.setLength(draw(signs.length()));
        }
        if (signs.length() > 80) {
            signs.setLength(80);
        }
        return signs.toString();
    }

    private static String blanks() {
        return draw(5) == 0 ? " ".repeat(1 + draw(2)) : "";
    }

    private static void write(PartyWill x, PlainWill y, int t, String signs) {
        calls += signs.length() + 3;
        Checks.due("text", x.text(t, signs.length()), y.text(t, signs.length()));
        for (int i = 0; i < signs.length(); i++) {
            Checks.due("put", x.put(t, i, signs.charAt(i)), y.put(t, i, signs.charAt(i)));
        }
        Checks.due("fault of '" + signs + "'", x.fault(t), y.fault(t));
        Checks.due("party by '" + signs + "'", x.party(t), y.party(t));
    }

    /** A row of pairs that a guest can have shown, mostly. */
    private static void pairs(PartyWill x, PlainWill y) {
        int r = draw(6);
        int n = draw(4);
        calls += 4 * n + 8;
        x.row(r, 2 * n);
        y.row(r, 2 * n);
        x.guest(draw(6), 1);
        int grief = x.asked();
        y.guest(0, 9);
        for (int p = 0; p < n; p++) {
            int tune = draw(4);
            grief = Math.max(0, Math.min(20, grief + draw(5) - 2));
            x.lay(r, 2 * p, tune);
            y.lay(r, 2 * p, tune);
            x.lay(r, 2 * p + 1, grief);
            y.lay(r, 2 * p + 1, grief);
        }
        Checks.due("at", x.at(r, 0), y.at(r, 0));
        x.out(0);
        y.out(0);
        int guest = draw(6);
        Checks.due("kinds", x.kinds(guest, r), y.kinds(guest, r));
        Checks.due("came", x.came(guest, r), y.came(guest, r));
    }

    /** Keeping, going on and undoing near one another, so that what was kept is gone back through. */
    private static void goBack(PartyWill x, PlainWill y) {
        int k = draw(3);
        int n = draw(4);
        calls += 3;
        switch (draw(3)) {
            case 0: Checks.due("keep", x.keep(k), y.keep(k)); break;
            case 1: Checks.due("on", x.on(k), y.on(k)); break;
            default: break;
        }
        Checks.due("undo", x.undo(n), y.undo(n));
        Checks.due("digest() behind undo()", x.digest(), y.digest());
    }

    private static boolean once(String where, PartyWill x, PlainWill y) {
        calls += 6;
        int a = number(5);
        int b = number(6);
        int c = number(6);
        int which = draw(47);
        String call = where + "call " + which + " of " + a + ", " + b + ", " + c;
        int got = answerOf(x, which, a, b, c);
        int want = plainAnswerOf(y, which, a, b, c);
        Checks.due(call, got, want);
        Checks.due(call + ", asked()", x.asked(), y.asked());
        Checks.due(call + ", upper()", x.upper(), y.upper());
        Checks.due(call + ", lower()", x.lower(), y.lower());
        Checks.due(call + ", finding()", x.finding(), y.finding());
        long digest = x.digest();
        long wantDigest = y.digest();
        Checks.due(call + ", digest()", digest, wantDigest);
        return got == want && digest == wantDigest;
    }

    private static int answerOf(PartyWill x, int which, int a, int b, int c) {
        switch (which) {
            case 0: return x.row(a, b * 7);
            case 1: return x.lay(a, b, c);
            case 2: return x.at(a, b);
            case 3: return x.tear(a);
            case 4: return x.copy(a, b, c, a, b);
            case 5: return x.mean(a);
            case 6: return x.text(a, b * 13);
            case 7: return x.put(a, b, c * 50);
            case 8: return x.fault(a);
            case 9: return x.party(a);
            case 10: return x.guest(a, b);
            case 11: case 12: return x.mark(a, b);
            case 13: return x.does(a, b - 1);
            case 14: case 15: return x.tune(a);
            case 16: return x.say(a);
            case 17: case 18: return x.ice(a);
            case 19: return x.undo(b);
            case 20: return x.keep(a);
            case 21: return x.on(a);
            case 22: return x.out(a);
            case 23: return x.safe();
            case 24: case 25: return x.falls(a);
            case 26: case 27: return x.grief(c, a);
            case 28: return x.stay(b);
            case 29: return x.first(b, a);
            case 30: return x.fewest(b, a);
            case 31: return x.gay();
            case 32: case 33: return x.ices(a);
            case 34: return x.aunt(b);
            case 35: return x.kinds(c, a);
            case 36: return x.came(c, a);
            case 37: return x.did(c, a, b, a + b - 3);
            case 38: return x.wept(a * b + c);
            case 39: return x.gets(a, b + c);
            case 40: return x.stops();
            case 41: return x.odds(b);
            case 42: return x.mid(b);
            case 43: return x.lots(b, c + 1);
            case 44: return x.count(b + c);
            case 45: return x.findings(b);
            default: return x.row(a, b);
        }
    }

    private static int plainAnswerOf(PlainWill y, int which, int a, int b, int c) {
        switch (which) {
            case 0: return y.row(a, b * 7);
            case 1: return y.lay(a, b, c);
            case 2: return y.at(a, b);
            case 3: return y.tear(a);
            case 4: return y.copy(a, b, c, a, b);
            case 5: return y.mean(a);
            case 6: return y.text(a, b * 13);
            case 7: return y.put(a, b, c * 50);
            case 8: return y.fault(a);
            case 9: return y.party(a);
            case 10: return y.guest(a, b);
            case 11: case 12: return y.mark(a, b);
            case 13: return y.does(a, b - 1);
            case 14: case 15: return y.tune(a);
            case 16: return y.say(a);
            case 17: case 18: return y.ice(a);
            case 19: return y.undo(b);
            case 20: return y.keep(a);
            case 21: return y.on(a);
            case 22: return y.out(a);
            case 23: return y.safe();
            case 24: case 25: return y.falls(a);
            case 26: case 27: return y.grief(c, a);
            case 28: return y.stay(b);
            case 29: return y.first(b, a);
            case 30: return y.fewest(b, a);
            case 31: return y.gay();
            case 32: case 33: return y.ices(a);
            case 34: return y.aunt(b);
            case 35: return y.kinds(c, a);
            case 36: return y.came(c, a);
            case 37: return y.did(c, a, b, a + b - 3);
            case 38: return y.wept(a * b + c);
            case 39: return y.gets(a, b + c);
            case 40: return y.stops();
            case 41: return y.odds(b);
            case 42: return y.mid(b);
            case 43: return y.lots(b, c + 1);
            case 44: return y.count(b + c);
            case 45: return y.findings(b);
            default: return y.row(a, b);
        }
    }
}
