/** Promises 40 to 46, sentence by sentence: what is told. */
final class SentencesTold {
    private static final int MOST = Checks.MOST, LEAST = Checks.LEAST;

    private SentencesTold() {
    }

    @Sentence(of = 40, says = "What the latest lay(), at(), mean(), guest(), out(), falls(), stay() that was not "
        + "refused (nor NONE, but as told) told; 0 before.")
    static void promise40_whatTheLatestTold_0Before() {
        PartyWill x = new PartyWill();
        Checks.due("asked() before", x.asked(), 0);
        x.row(0, 1);
        Checks.due("asked() behind row()", x.asked(), 0);
        x.lay(0, 0, LEAST);
        Checks.due("asked() by lay()", x.asked(), 0);
        x.lay(0, 0, MOST);
        Checks.due("asked() by lay() again", x.asked(), LEAST);
        x.at(0, 0);
        Checks.due("asked() by at()", x.asked(), MOST);
        Checks.row(x, 1, -8);
        x.mean(1);
        Checks.due("asked() by mean()", x.asked(), -8);
        x.out(0);
        Checks.due("asked() by out() without GUESTS", x.asked(), 0);
        PartyWill y = Checks.party("c34448 g3g0 x10");
        Checks.due("asked() behind party()", y.asked(), 0);
        y.guest(0, 1);
        Checks.due("asked() by guest()", y.asked(), 3);
        y.stay(1);
        Checks.due("asked() by stay()", y.asked(), 7);
        y.out(3);
        Checks.due("asked() by out()", y.asked(), 4);
        Checks.row(y, 0, 3);
        y.falls(0);
        Checks.due("asked() by falls()", y.asked(), 1);
        othersTellNothing(y);
        Checks.due("asked() stays", y.asked(), 1);
        y.row(0, 0);
        Checks.due("falls(0)", y.falls(0), PartyWill.NONE);
        Checks.due("asked() by falls() that is NONE", y.asked(), 0);
    }

    private static void othersTellNothing(PartyWill y) {
        y.lay(0, 9, 5);
        y.at(6, 0);
        y.row(2, 0);
        y.mean(2);
        y.guest(2, 0);
        y.out(4);
        y.falls(5);
        y.stay(7);
        y.first(1, 1);
        y.fewest(1, 1);
        y.mark(0, 1);
        y.safe();
        y.gay();
        y.grief(0, 0);
        y.odds(1);
        y.mid(1);
        y.wept(1);
        y.stops();
        y.count(0);
        y.digest();
    }

    @Sentence(of = 41, says = "The upper number of the chances that were told last; 0 before.")
    static void promise41_upper_0Before() {
        PartyWill x = new PartyWill();
        Checks.due("upper() before", x.upper(), 0);
        x.odds(0);
        x.stay(0);
        x.mid(0);
        Checks.due("upper() behind refusals", x.upper(), 0);
        PartyWill y = Checks.party("c65999 g0g0 x10");
        y.mid(6);
        Checks.due("upper() by mid()", y.upper(), 4095);
        y.odds(9);
        y.mid(7);
        y.stay(-1);
        y.tune(0);
        y.first(6, 0);
        y.fewest(6, 0);
        Checks.due("upper() stays", y.upper(), 4095);
        y.odds(0);
        Checks.due("upper() by odds()", y.upper(), 1);
        PartyWill z = Checks.party("c19999 g9");
        z.stay(6);
        Checks.due("upper() by stay()", z.upper(), 4096);
    }

    @Sentence(of = 42, says = "Its lower number; 1 before.")
    static void promise42_lower_1Before() {
        PartyWill x = new PartyWill();
        Checks.due("lower() before", x.lower(), 1);
        x.odds(0);
        x.mid(0);
        Checks.due("lower() behind refusals", x.lower(), 1);
        PartyWill y = Checks.party("c65999 g0g0 x10");
        y.odds(6);
        Checks.due("lower() by odds()", y.lower(), 4096);
        y.odds(9);
        y.mid(7);
        y.stay(-1);
        y.first(6, 0);
        Checks.due("lower() stays", y.lower(), 4096);
        y.stay(2);
        Checks.due("lower() by stay()", y.lower(), 1);
        y.mid(2);
        Checks.due("lower() by mid()", y.lower(), 16);
        y.mid(0);
        Checks.due("lower() by 0", y.lower(), 1);
    }

    private static void countsAre(PartyWill x, String when, int... want) {
        for (int what = 0; what < want.length; what++) {
            Checks.due("count(" + what + ") " + when, x.count(what), want[what]);
        }
    }

    @Sentence(of = 43, says = "0 GUESTS, 1 the CLAUSE (0 without GUESTS), 2 DEEDS, 3 GUESTS that are in, 4 all GRIEF, "
        + "5 DANCERS (UNCLES, too), 6 STONY ones (SPIES, too), 7 ROWS, 8 TEXTS that are there, 9 kept PARTIES.")
    static void promise43_whatIsCounted() {
        PartyWill x = new PartyWill();
        countsAre(x, "of a new object", 0, 0, 0, 0, 0, 0, 0, 0, 0, 0);
        Checks.text(x, 3, "c94449 d9d9d9u9u9u9");
        countsAre(x, "without GUESTS, a TEXT alone", 0, 0, 0, 0, 0, 0, 0, 0, 1, 0);
        x.party(3);
        countsAre(x, "of a PARTY", 6, 9, 0, 6, 54, 6, 0, 0, 1, 0);
        for (int k = 0; k < 40; k++) {
            x.tune(3);
        }
        for (int k = 0; k < 3; k++) {
            x.keep(k);
        }
        for (int r = 0; r < 6; r++) {
            x.row(r, r);
        }
        for (int t = 0; t < 4; t++) {
            x.text(t, t);
        }
        countsAre(x, "as many as can be", 6, 9, 40, 6, 120, 6, 0, 6, 4, 3);
        for (int r = 0; r < 6; r++) {
            x.tear(r);
        }
        Checks.due("count(7), all torn", x.count(7), 0);
        countsAre(Checks.party("c14444 s0s0s0y0y0y0"), "of STONY ones", 6, 1, 0, 6, 0, 0, 6, 0, 1, 0);
        countsAre(Checks.party("c14444 g0m0"), "of others", 2, 1, 0, 2, 0, 0, 0, 0, 1, 0);
        PartyWill out = Checks.party("c14444 g9g9 x01x10");
        out.tune(0);
        countsAre(out, "when all are OUT", 2, 1, 1, 0, 0, 0, 0, 0, 1, 0);
    }

    @Sentence(of = 43, says = "BAD.")
    static void promise43_bad() {
        PartyWill x = Checks.party("c14444 g0");
        Checks.refused(x, "count(-1)", () -> x.count(-1), PartyWill.BAD);
        Checks.refused(x, "count(10)", () -> x.count(10), PartyWill.BAD);
        Checks.refused(x, "count(most)", () -> x.count(MOST), PartyWill.BAD);
        Checks.refused(x, "count(least)", () -> x.count(LEAST), PartyWill.BAD);
    }

    @Sentence(of = 44, says = "The latest FINDING (0 before any).")
    static void promise44_latestFinding_0BeforeAny() {
        PartyWill x = new PartyWill();
        Checks.due("finding() before any", x.finding(), 0);
        x.row(6, 0);
        x.does(0, 0);
        x.stops();
        Checks.due("finding() behind BAD, STATE, NONE", x.finding(), 0);
        x.row(0, -1);
        Checks.due("finding() of a size below 0", x.finding(), Checks.SIZE);
        x.tear(0);
        Checks.due("finding() of a missing ROW", x.finding(), Checks.NOTHING);
        x.row(0, 0);
        x.mean(0);
        Checks.due("finding() of the mean of none", x.finding(), Checks.NOUGHT);
        x.at(0, 0);
        Checks.due("finding() of a place beyond", x.finding(), Checks.BEYOND);
        Checks.row(x, 0, 4);
        x.falls(0);
        Checks.due("finding() of no TUNE", x.finding(), Checks.UNLIKE);
        x.at(0, 0);
        x.at(6, 0);
        Checks.due("finding() stays", x.finding(), Checks.UNLIKE);
    }

    @Sentence(of = 45, says = "How often a FINDING (1 .. 5) was answered.")
    static void promise45_howOftenAFinding() {
        PartyWill x = new PartyWill();
        for (int f = 1; f <= 5; f++) {
            Checks.due("findings(" + f + ") before any", x.findings(f), 0);
        }
        x.tear(6);
        x.does(0, 0);
        x.stops();
        for (int f = 1; f <= 5; f++) {
            Checks.due("findings(" + f + ") behind BAD, STATE, NONE", x.findings(f), 0);
        }
        for (int k = 0; k < 400; k++) {
            x.tear(0);
        }
        x.row(0, -1);
        x.row(0, -1);
        x.row(0, 0);
        x.mean(0);
        x.mean(0);
        x.mean(0);
        x.at(0, 0);
        Checks.row(x, 0, 4);
        x.falls(0);
        int[] want = {400, 1, 1, 3, 2};
        for (int f = 1; f <= 5; f++) {
            Checks.due("findings(" + f + ")", x.findings(f), want[f - 1]);
        }
    }

    @Sentence(of = 45, says = "BAD.")
    static void promise45_bad() {
        PartyWill x = new PartyWill();
        Checks.refused(x, "findings(0)", () -> x.findings(0), PartyWill.BAD);
        Checks.refused(x, "findings(6)", () -> x.findings(6), PartyWill.BAD);
        Checks.refused(x, "findings(-1)", () -> x.findings(-1), PartyWill.BAD);
        Checks.refused(x, "findings(most)", () -> x.findings(MOST), PartyWill.BAD);
        Checks.refused(x, "findings(least)", () -> x.findings(LEAST), PartyWill.BAD);
    }

    @Sentence(of = 46, says = "h = 17; then h = 31 h + v for each v (of a call that tells by asked(): what it tells, "
        + "not the 1 that it answers; asked() stays): count() 0 to 9; what each TUNE does; of each GUEST guest() 0 to "
        + "4; of each kept PARTY how many DEEDS (-1: missing); of each ROW its size (-1: missing) and places, of each "
        + "TEXT likewise.")
    static void promise46_digest() {
        int[] ofNew = new int[27];
        System.arraycopy(Checks.times(13, -1), 0, ofNew, 14, 13);
        Checks.due("digest() of a new object", new PartyWill().digest(), Checks.digestOf(ofNew));
        PartyWill x = new PartyWill();
        x.row(5, 0);
        x.text(0, 0);
        int[] ofEmpty = {0, 0, 0, 0, 0, 0, 0, 1, 1, 0, 0, 0, 0, 0, -1, -1, -1, -1, -1, -1, -1, -1, 0, 0, -1, -1, -1};
        Checks.due("digest() of an empty ROW, an empty TEXT", x.digest(), Checks.digestOf(ofEmpty));
        PartyWill y = Checks.party("c10459y9m0x10");
        y.tune(3);
        y.tune(0);
        y.keep(2);
        y.does(1, 5);
        Checks.row(y, 0, LEAST, MOST, -1);
        y.text(3, 3);
        y.put(3, 0, -128);
        y.put(3, 2, 127);
        y.guest(0, 1);
        int[] due = {2, 1, 2, 2, 6 + 6, 0, 1, 1, 2, 1, -4, 5, 1, 5, 5, 6, 0, 0, 1, 3, 6, 0, 1, 0, -1, -1, 2,
            3, LEAST, MOST, -1, -1, -1, -1, -1, -1, 13, 'c', '1', '0', '4', '5', '9', 'y', '9', 'm', '0', 'x', '1', '0',
            -1, -1, 3, -128, 32, 127};
        Checks.due("digest()", y.digest(), Checks.digestOf(due));
        Checks.due("asked() stays", y.asked(), 6);
        Checks.due("digest() again", y.digest(), Checks.digestOf(due));
        Checks.due("finding() stays", y.finding(), 0);
    }
}
