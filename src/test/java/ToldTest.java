/** Promises 1 and 40 to 46: a new object, and what is told. */
public final class ToldTest {
    public static void main(String[] args) {
        newObject();
        asked();
        uppersAndLowers();
        counts();
        findings();
        digests();
        Checks.end();
    }

    private static void newObject() {
        PartyWill x = new PartyWill();
        for (int what = 0; what < 10; what++) {
            Checks.due("count(" + what + ")", x.count(what), 0);
        }
        for (int r = 0; r < 6; r++) {
            Checks.found(x, "tear(" + r + ")", x.tear(r), 1);
        }
        for (int t = 0; t < 4; t++) {
            Checks.found(x, "fault(" + t + ")", x.fault(t), 1);
        }
        Checks.due("asked()", x.asked(), 0);
        Checks.due("upper()", x.upper(), 0);
        Checks.due("lower()", x.lower(), 1);
        Checks.due("digest()", x.digest(), digestOf(zerosThen(14, -1, 13)));
    }

    private static int[] zerosThen(int zeros, int v, int times) {
        int[] all = new int[zeros + times];
        java.util.Arrays.fill(all, zeros, zeros + times, v);
        return all;
    }

    private static long digestOf(int... all) {
        long h = 17;
        for (int v : all) {
            h = 31 * h + v;
        }
        return h;
    }

    private static void asked() {
        PartyWill x = Checks.party("c34448 g3g0 x10");
        Checks.row(x, 0, 3);
        x.falls(0);
        Checks.due("asked() by falls()", x.asked(), 1);
        x.first(2, 1);
        x.gay();
        x.stops();
        x.tune(0);
        x.count(4);
        x.digest();
        x.mean(6);
        x.at(0, 9);
        x.guest(7, 1);
        x.out(9);
        x.stay(7);
        Checks.due("asked() behind others, refusals", x.asked(), 1);
        x.out(0);
        Checks.due("asked() by out()", x.asked(), 3);
        x.at(0, 0);
        Checks.due("asked() by at()", x.asked(), 3);
        x.stay(1);
        Checks.due("asked() by stay()", x.asked(), 7);
        x.guest(0, 3);
        Checks.due("asked() by guest()", x.asked(), 0);
    }

    private static void uppersAndLowers() {
        PartyWill x = Checks.party("c34448 g3g0 x10");
        Checks.share(x, "odds(2)", x.odds(2), 9, 16);
        x.stay(9);
        x.mid(-1);
        x.tune(0);
        Checks.due("upper() stays", x.upper(), 9);
        Checks.due("lower() stays", x.lower(), 16);
        x.stay(2);
        Checks.due("upper() by stay()", x.upper(), 9);
        Checks.due("lower() by stay()", x.lower(), 1);
    }

    private static void counts() {
        PartyWill x = Checks.party("c34445 g4d1s1m1u1y2 x10x20");
        x.tune(3);
        x.row(3, 4);
        x.row(5, 0);
        x.keep(1);
        int[] want = {6, 3, 1, 5, 2 + 2 + 3 + 2 + 3, 2, 2, 2, 1, 1};
        for (int what = 0; what < 10; what++) {
            Checks.due("count(" + what + ")", x.count(what), want[what]);
        }
        Checks.due("count(10)", x.count(10), PartyWill.BAD);
        Checks.due("count(-1)", x.count(-1), PartyWill.BAD);
        x = Checks.party("c14444 d9s9u9y9 x01x10x12x23x32");
        x.tune(0);
        Checks.due("in", x.count(3), 1);
        Checks.due("DANCERS, OUT ones too", x.count(5), 2);
        Checks.due("STONY ones, OUT ones too", x.count(6), 2);
    }

    private static void findings() {
        PartyWill x = new PartyWill();
        Checks.due("finding() before any", x.finding(), 0);
        x.tear(0);
        x.row(0, 0);
        x.at(0, 0);
        x.mean(0);
        x.row(0, -1);
        x.mean(0);
        Checks.row(x, 0, 7);
        x.falls(0);
        Checks.due("finding()", x.finding(), 3);
        int[] want = {1, 1, 1, 2, 1};
        for (int f = 1; f <= 5; f++) {
            Checks.due("findings(" + f + ")", x.findings(f), want[f - 1]);
        }
        Checks.due("findings(0)", x.findings(0), PartyWill.BAD);
        Checks.due("findings(6)", x.findings(6), PartyWill.BAD);
        Checks.due("finding() still", x.finding(), 3);
    }

    private static void digests() {
        PartyWill x = Checks.party("c34446 g2y0 x10");
        x.tune(3);
        x.keep(0);
        Checks.row(x, 2, 5, -6);
        x.text(1, 2);
        x.put(1, 0, 200);
        x.guest(1, 3);
        long asked = x.asked();
        int[] party = {2, 3, 1, 1, 1, 0, 1, 1, 2, 1, 0, 0, 0, 2, 0, 0, 1, 0, 1, 5, 1, 0, 1, 0, 1, -1, -1};
        int[] rows = {-1, -1, 2, 5, -6, -1, -1, -1};
        int[] texts = {15, 99, 51, 52, 52, 52, 54, 32, 103, 50, 121, 48, 32, 120, 49, 48, 2, -56, 32, -1, -1};
        int[] all = new int[party.length + rows.length + texts.length];
        System.arraycopy(party, 0, all, 0, party.length);
        System.arraycopy(rows, 0, all, party.length, rows.length);
        System.arraycopy(texts, 0, all, party.length + rows.length, texts.length);
        Checks.due("digest()", x.digest(), digestOf(all));
        Checks.due("asked() behind digest()", x.asked(), asked);
    }
}
