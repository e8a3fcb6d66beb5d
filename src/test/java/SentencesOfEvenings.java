/** Promises 31 to 36, sentence by sentence: evenings, the will. */
final class SentencesOfEvenings {
    private static final int MOST = Checks.MOST, LEAST = Checks.LEAST;
    private static final int GRIEFS = (1 << 21) - 1;
    /** Silence by 0, a polka by 3, a waltz by -2, an air by 1. */
    private static final String EACH_KIND = "c94725 g5d5s5m5u5y5";

    private SentencesOfEvenings() {
    }

    private static void kindsAre(PartyWill x, int i, int want, int... evening) {
        Checks.row(x, 0, evening);
        Checks.due("kinds(" + i + ", 0) by " + java.util.Arrays.toString(evening), x.kinds(i, 0), want);
    }

    private static void cameWith(PartyWill x, int i, int want, int... evening) {
        Checks.row(x, 0, evening);
        Checks.due("came(" + i + ", 0) by " + java.util.Arrays.toString(evening), x.came(i, 0), want);
    }

    @Sentence(of = 31, says = "Of which KINDS (bits) a GUEST can be by an evening: a ROW of pairs (0 to 8: a TUNE, "
        + "its GRIEF behind it), one behind the other, from its GRIEF now on, nobody OUT.")
    static void promise31_whichKindsByAnEvening() {
        PartyWill x = Checks.party(EACH_KIND);
        kindsAre(x, 0, 63);
        kindsAre(x, 5, 0, 0, 6);
        kindsAre(x, 5, 1, 1, 8);
        kindsAre(x, 5, 2, 1, 7);
        kindsAre(x, 5, 4 + 32, 1, 6);
        kindsAre(x, 5, 8, 1, 11);
        kindsAre(x, 5, 16, 1, 0);
        kindsAre(x, 0, 2 + 16, 3, 6, 2, 3);
        kindsAre(x, 0, 63, 0, 5, 0, 5, 0, 5, 0, 5, 0, 5, 0, 5, 0, 5, 0, 5);
        kindsAre(x, 0, 0, 0, 5, 0, 5, 0, 5, 0, 5, 0, 5, 0, 5, 0, 5, 0, 4);
        kindsAre(x, 0, 0, 0, 20);
        x.ice(0);
        kindsAre(x, 0, 63, 0, 2);
        PartyWill low = Checks.party("c94045 g0");
        kindsAre(low, 0, 63, 1, 0);
        PartyWill seen = Checks.party("c14449 g1g1 x10");
        kindsAre(seen, 0, 1 + 2 + 16, 3, 6, 3, 11, 3, 16, 3, 20, 3, 20);
        long before = seen.digest();
        seen.kinds(0, 0);
        Checks.due("digest() behind kinds()", seen.digest(), before);
    }

    @Sentence(of = 31, says = "BAD; STATE: it is OUT; NOTHING; SIZE: not by pairs, too many; UNLIKE.")
    static void promise31_bad_stateItIsOut_nothing_sizeNotByPairsTooMany_unlike() {
        PartyWill none = new PartyWill();
        none.row(0, 0);
        Checks.refused(none, "kinds(0, 0) without GUESTS", () -> none.kinds(0, 0), PartyWill.BAD);
        PartyWill out = Checks.party("c14444 g2g1 x10");
        out.row(0, 0);
        out.tune(0);
        Checks.refused(out, "kinds(0, 0), OUT", () -> out.kinds(0, 0), PartyWill.STATE);
        Checks.due("kinds(1, 0), in", out.kinds(1, 0), 63);
        PartyWill x = Checks.party("c94444 g0");
        Checks.refused(x, "kinds(-1, 0)", () -> x.kinds(-1, 0), PartyWill.BAD);
        Checks.refused(x, "kinds(1, 0)", () -> x.kinds(1, 0), PartyWill.BAD);
        Checks.refused(x, "kinds(0, -1)", () -> x.kinds(0, -1), PartyWill.BAD);
        Checks.refused(x, "kinds(0, 6)", () -> x.kinds(0, 6), PartyWill.BAD);
        Checks.refused(x, "kinds(0, most)", () -> x.kinds(0, MOST), PartyWill.BAD);
        Checks.finds(x, "kinds(0, 5), missing", () -> x.kinds(0, 5), Checks.NOTHING);
        int[] sizes = {1, 3, 15, 17, 18, 39, 40};
        for (int n : sizes) {
            x.row(0, n);
            Checks.due("kinds(0, 0) of " + n + " places", x.kinds(0, 0), PartyWill.FINDING);
            Checks.due("finding()", x.finding(), Checks.SIZE);
        }
        Checks.row(x, 0, Checks.times(18, 99));
        x.row(0, 16);
        Checks.due("kinds(0, 0) of 16 places, none behind them", x.kinds(0, 0), 63);
        int[][] unlike = {{14, -1}, {14, 4}, {14, MOST}, {15, -1}, {15, 21}, {15, LEAST}, {0, 4}, {1, 21}};
        for (int[] place : unlike) {
            x.row(0, 16);
            x.lay(0, place[0], place[1]);
            Checks.due("kinds(0, 0) with " + place[1] + " at " + place[0], x.kinds(0, 0), PartyWill.FINDING);
            Checks.due("finding()", x.finding(), Checks.UNLIKE);
        }
        Checks.row(x, 0, 0, 9, 4, 0);
        Checks.finds(x, "UNLIKE behind what can't be", () -> x.kinds(0, 0), Checks.UNLIKE);
    }

    @Sentence(of = 31, says = "(In this order.)")
    static void promise31_inThisOrder() {
        PartyWill x = Checks.party("c14444 g2g1 x10");
        x.tune(0);
        Checks.refused(x, "BAD (the ROW) ahead of STATE", () -> x.kinds(0, 6), PartyWill.BAD);
        Checks.refused(x, "BAD (the GUEST) ahead of NOTHING", () -> x.kinds(2, 0), PartyWill.BAD);
        Checks.refused(x, "STATE ahead of NOTHING", () -> x.kinds(0, 0), PartyWill.STATE);
        Checks.row(x, 0, 9, 9, 9);
        Checks.refused(x, "STATE ahead of SIZE", () -> x.kinds(0, 0), PartyWill.STATE);
        Checks.finds(x, "SIZE ahead of UNLIKE, not by pairs", () -> x.kinds(1, 0), Checks.SIZE);
        Checks.row(x, 0, Checks.times(18, 99));
        Checks.finds(x, "SIZE ahead of UNLIKE, too many", () -> x.kinds(1, 0), Checks.SIZE);
    }

    @Sentence(of = 32, says = "With which GRIEF (bits 0 .. 20) it can have begun, so.")
    static void promise32_withWhichGrief() {
        PartyWill x = Checks.party(EACH_KIND);
        cameWith(x, 0, GRIEFS);
        cameWith(x, 5, GRIEFS);
        cameWith(x, 0, 1, 0, 0);
        cameWith(x, 0, 1 << 20, 0, 20);
        cameWith(x, 0, 7, 2, 0);
        cameWith(x, 1, 15, 2, 0);
        cameWith(x, 0, 15 << 17, 1, 20);
        cameWith(x, 2, 3 << 19, 1, 20);
        cameWith(x, 3, 127 << 14, 1, 20);
        cameWith(x, 4, GRIEFS, 1, 0);
        cameWith(x, 4, 0, 1, 1);
        cameWith(x, 0, 0, 3, 0);
        cameWith(x, 0, 1 << 3, 0, 3, 0, 3, 0, 3, 0, 3, 0, 3, 0, 3, 0, 3, 0, 3);
        cameWith(x, 0, 0, 0, 3, 0, 3, 0, 3, 0, 3, 0, 3, 0, 3, 0, 3, 0, 4);
        PartyWill seen = Checks.party("c14449 g1g1 x10");
        cameWith(seen, 0, 1 << 9, 3, 14, 3, 19, 3, 20);
        long before = seen.digest();
        seen.came(0, 0);
        Checks.due("digest() behind came()", seen.digest(), before);
    }

    @Sentence(of = 32, says = "BAD; STATE; NOTHING; SIZE; UNLIKE.")
    static void promise32_badStateNothingSizeUnlike() {
        PartyWill none = new PartyWill();
        none.row(0, 0);
        Checks.refused(none, "came(0, 0) without GUESTS", () -> none.came(0, 0), PartyWill.BAD);
        PartyWill out = Checks.party("c14444 g2g1 x10");
        out.row(0, 0);
        out.tune(0);
        Checks.refused(out, "came(0, 0), OUT", () -> out.came(0, 0), PartyWill.STATE);
        Checks.due("came(1, 0), in", out.came(1, 0), GRIEFS);
        PartyWill x = Checks.party("c94444 g0");
        Checks.refused(x, "came(-1, 0)", () -> x.came(-1, 0), PartyWill.BAD);
        Checks.refused(x, "came(1, 0)", () -> x.came(1, 0), PartyWill.BAD);
        Checks.refused(x, "came(0, -1)", () -> x.came(0, -1), PartyWill.BAD);
        Checks.refused(x, "came(0, 6)", () -> x.came(0, 6), PartyWill.BAD);
        Checks.refused(x, "came(least, 0)", () -> x.came(LEAST, 0), PartyWill.BAD);
        Checks.finds(x, "came(0, 5), missing", () -> x.came(0, 5), Checks.NOTHING);
        int[] sizes = {1, 15, 17, 18, 40};
        for (int n : sizes) {
            x.row(0, n);
            Checks.finds(x, "came(0, 0) of " + n + " places", () -> x.came(0, 0), Checks.SIZE);
        }
        Checks.row(x, 0, Checks.times(18, 99));
        x.row(0, 16);
        Checks.due("came(0, 0) of 16 places, none behind them", x.came(0, 0), 1);
        int[][] unlike = {{14, -1}, {14, 4}, {15, -1}, {15, 21}};
        for (int[] place : unlike) {
            x.row(0, 16);
            x.lay(0, place[0], place[1]);
            Checks.finds(x, "came(0, 0) with " + place[1] + " at " + place[0], () -> x.came(0, 0), Checks.UNLIKE);
        }
    }

    @Sentence(of = 32, says = "(In this order.)")
    static void promise32_inThisOrder() {
        PartyWill x = Checks.party("c14444 g2g1 x10");
        x.tune(0);
        Checks.refused(x, "BAD (the ROW) ahead of STATE", () -> x.came(0, 6), PartyWill.BAD);
        Checks.refused(x, "BAD (the GUEST) ahead of NOTHING", () -> x.came(2, 0), PartyWill.BAD);
        Checks.refused(x, "STATE ahead of NOTHING", () -> x.came(0, 0), PartyWill.STATE);
        Checks.row(x, 0, 9, 9, 9);
        Checks.refused(x, "STATE ahead of SIZE", () -> x.came(0, 0), PartyWill.STATE);
        Checks.finds(x, "SIZE ahead of UNLIKE, not by pairs", () -> x.came(1, 0), Checks.SIZE);
        Checks.row(x, 0, Checks.times(18, 99));
        Checks.finds(x, "SIZE ahead of UNLIKE, too many", () -> x.came(1, 0), Checks.SIZE);
    }

    @Sentence(of = 33, says = "What a TUNE does (bits 0 .. 9: that and 4), if a GUEST had a GRIEF (0 .. 20) ahead of "
        + "it, and another one behind.")
    static void promise33_whatATuneDoes() {
        PartyWill x = Checks.party(EACH_KIND);
        Checks.due("a GUEST, 4 less", x.did(0, 0, 4, 0), 1);
        Checks.due("a GUEST, 5 more", x.did(0, 3, 4, 9), 512);
        Checks.due("a GUEST, 6 more", x.did(0, 3, 4, 10), 0);
        Checks.due("a GUEST, 5 less", x.did(0, 3, 5, 0), 0);
        Checks.due("a GUEST, none more", x.did(0, 0, 4, 4), 16);
        Checks.due("a GUEST, 0 to 0", x.did(0, 0, 0, 0), 31);
        Checks.due("a GUEST, 20 to 20", x.did(0, 0, 20, 20), 1008);
        Checks.due("a GUEST, 20 to 16", x.did(0, 0, 20, 16), 1);
        Checks.due("a GUEST, 20 to 0", x.did(0, 0, 20, 0), 0);
        Checks.due("a GUEST, 0 to 20", x.did(0, 0, 0, 20), 0);
        Checks.due("a DANCER by a polka, 5 less", x.did(1, 1, 5, 0), 1);
        Checks.due("a DANCER by a waltz, 4 more", x.did(1, 2, 5, 9), 512);
        Checks.due("a DANCER by an air, 5 less", x.did(1, 3, 5, 0), 0);
        Checks.due("a STONY one, 1 more", x.did(2, 0, 5, 6), 992);
        Checks.due("a STONY one, 2 more", x.did(2, 0, 5, 7), 0);
        Checks.due("a STONY one to 20", x.did(2, 0, 19, 20), 992);
        Checks.due("a MOURNER, 10 more", x.did(3, 0, 5, 15), 512);
        Checks.due("a MOURNER, 9 more", x.did(3, 0, 5, 14), 0);
        Checks.due("a MOURNER, to 20", x.did(3, 0, 11, 20), 512);
        Checks.due("an UNCLE by a polka to 0", x.did(4, 1, 20, 0), 1023);
        Checks.due("an UNCLE by a polka, not to 0", x.did(4, 1, 20, 20), 0);
        Checks.due("an UNCLE by a waltz, 0 to 0", x.did(4, 2, 0, 0), 63);
        PartyWill out = Checks.party("c14444 g2g1 x10");
        out.tune(0);
        Checks.unchanging(out, "of one that is OUT", () -> out.did(0, 0, 20, 20), 1008);
    }

    @Sentence(of = 33, says = "BAD.")
    static void promise33_bad() {
        PartyWill none = new PartyWill();
        Checks.refused(none, "did(0, 0, 0, 0) without GUESTS", () -> none.did(0, 0, 0, 0), PartyWill.BAD);
        PartyWill x = Checks.party("c94444 g0");
        int[] beyond = {-1, 21, MOST, LEAST};
        for (int v : beyond) {
            Checks.refused(x, "did(" + v + ", 0, 0, 0)", () -> x.did(v, 0, 0, 0), PartyWill.BAD);
            Checks.refused(x, "did(0, " + v + ", 0, 0)", () -> x.did(0, v, 0, 0), PartyWill.BAD);
            Checks.refused(x, "did(0, 0, " + v + ", 0)", () -> x.did(0, 0, v, 0), PartyWill.BAD);
            Checks.refused(x, "did(0, 0, 0, " + v + ")", () -> x.did(0, 0, 0, v), PartyWill.BAD);
        }
        Checks.refused(x, "did(1, 0, 0, 0)", () -> x.did(1, 0, 0, 0), PartyWill.BAD);
        Checks.refused(x, "did(0, 4, 0, 0)", () -> x.did(0, 4, 0, 0), PartyWill.BAD);
        Checks.due("did(0, 3, 20, 20)", x.did(0, 3, 20, 20), 1008);
    }

    @Sentence(of = 34, says = "Who that is in can have wept, if nobody saw it but a set of GUESTS (bits; OUT ones see "
        + "nothing), and one at least did: bits.")
    static void promise34_whoCanHaveWept() {
        PartyWill none = new PartyWill();
        Checks.due("wept(0) without GUESTS", none.wept(0), 0);
        PartyWill x = Checks.party("c34444 g4g0y9d0 x10x20x01x32");
        Checks.unchanging(x, "no set: one at least did", () -> x.wept(0), 0);
        Checks.due("wept(1)", x.wept(1), 2);
        Checks.due("one of two who saw it", x.wept(2), 0);
        Checks.due("both who saw it", x.wept(6), 1);
        Checks.due("wept(8), a SPY weeps", x.wept(8), 4);
        Checks.due("all of them; 3 is seen by nobody", x.wept(15), 7);
        x.tune(0);
        Checks.due("who is OUT did not, nor saw it", x.wept(15), 4);
        Checks.due("OUT ones see nothing", x.wept(1), 0);
        PartyWill seen = Checks.party("c34444 g4g0g0 x10x02x12");
        Checks.due("seen by 0, 1: not by 1 alone", seen.wept(2), 1);
        seen.tune(0);
        Checks.due("seen by 1 alone, 0 is OUT", seen.wept(2), 4);
        Checks.due("a set with one that is OUT", seen.wept(3), 4);
        PartyWill six = Checks.party("c94444 g9g9g9g9g9g9 x01x12x23x34x45x50");
        Checks.due("wept(63)", six.wept(63), 63);
        Checks.due("wept(32)", six.wept(32), 1);
    }

    @Sentence(of = 34, says = "BAD.")
    static void promise34_bad() {
        PartyWill x = Checks.party("c94444 g9g9g9g9g9g9 x01x12x23x34x45x50");
        Checks.refused(x, "wept(64)", () -> x.wept(64), PartyWill.BAD);
        Checks.refused(x, "wept(65)", () -> x.wept(65), PartyWill.BAD);
        Checks.refused(x, "wept(-1)", () -> x.wept(-1), PartyWill.BAD);
        Checks.refused(x, "wept(most)", () -> x.wept(MOST), PartyWill.BAD);
        Checks.refused(x, "wept(least)", () -> x.wept(LEAST), PartyWill.BAD);
        PartyWill two = Checks.party("c94444 g9g9 x01x10");
        Checks.due("wept(3) of two", two.wept(3), 3);
        Checks.refused(two, "wept(4) of two", () -> two.wept(4), PartyWill.BAD);
    }

    private static void getEach(PartyWill x, int n, int... want) {
        for (int i = 0; i < want.length; i++) {
            Checks.due("gets(" + i + ", " + n + ")", x.gets(i, n), want[i]);
        }
    }

    @Sentence(of = 35, says = "What a GUEST gets of n (1 .. 999) parts, shared alike by all that are in, whole; what "
        + "is left over goes to the first ones of these, 1 each (OUT: 0).")
    static void promise35_partsSharedAlike_leftOverToTheFirst_out0() {
        getEach(Checks.party("c34444 g9"), 1, 1);
        getEach(Checks.party("c34444 g9"), 999, 999);
        PartyWill six = Checks.party("c34444 g4g4g0g0g0g0 x21");
        getEach(six, 1, 1, 0, 0, 0, 0, 0);
        getEach(six, 5, 1, 1, 1, 1, 1, 0);
        getEach(six, 6, 1, 1, 1, 1, 1, 1);
        getEach(six, 999, 167, 167, 167, 166, 166, 166);
        Checks.due("1 is OUT", six.tune(0), 2);
        getEach(six, 1, 1, 0, 0, 0, 0, 0);
        getEach(six, 2, 1, 0, 1, 0, 0, 0);
        getEach(six, 5, 1, 0, 1, 1, 1, 1);
        getEach(six, 999, 200, 0, 200, 200, 200, 199);
        PartyWill first = Checks.party("c34444 g4g0g0 x10");
        first.tune(0);
        getEach(first, 3, 0, 2, 1);
        PartyWill none = Checks.party("c34444 g4g4 x10x01");
        none.tune(0);
        getEach(none, 999, 0, 0);
        Checks.unchanging(none, "gets(1, 1), all OUT", () -> none.gets(1, 1), 0);
    }

    @Sentence(of = 35, says = "BAD.")
    static void promise35_bad() {
        PartyWill none = new PartyWill();
        Checks.refused(none, "gets(0, 1) without GUESTS", () -> none.gets(0, 1), PartyWill.BAD);
        PartyWill x = Checks.party("c34444 g1g1");
        Checks.refused(x, "gets(-1, 1)", () -> x.gets(-1, 1), PartyWill.BAD);
        Checks.refused(x, "gets(2, 1)", () -> x.gets(2, 1), PartyWill.BAD);
        Checks.refused(x, "gets(most, 1)", () -> x.gets(MOST, 1), PartyWill.BAD);
        Checks.refused(x, "gets(0, 0)", () -> x.gets(0, 0), PartyWill.BAD);
        Checks.refused(x, "gets(0, 1000)", () -> x.gets(0, 1000), PartyWill.BAD);
        Checks.refused(x, "gets(0, -1)", () -> x.gets(0, -1), PartyWill.BAD);
        Checks.refused(x, "gets(0, most)", () -> x.gets(0, MOST), PartyWill.BAD);
        Checks.refused(x, "gets(0, least)", () -> x.gets(0, LEAST), PartyWill.BAD);
        PartyWill out = Checks.party("c34444 g4g4 x10x01");
        out.tune(0);
        Checks.refused(out, "gets(0, 0), OUT", () -> out.gets(0, 0), PartyWill.BAD);
    }

    private static void stopSo(String signs, int want) {
        Checks.due("stops() by " + signs, Checks.party(signs).stops(), want);
    }

    @Sentence(of = 36, says = "The smallest set (bits) of GUESTS that are in, two at least, whose GRIEF together is "
        + "less than the CLAUSE times one fewer than they are (they would rather stop together); of as small ones the "
        + "least number.")
    static void promise36_smallestSetThatWouldRatherStop() {
        stopSo("c14444 g0g0", 3);
        stopSo("c94444 g4g4", 3);
        stopSo("c54444 g2g3g4", 7);
        stopSo("c94444 g7g7g7g7g7g9", 31);
        stopSo("c94444 g8g8g7g7g7g7", 63);
        stopSo("c54444 g9g2g2g2", 6);
        stopSo("c54444 g9g9g9g9g2g2", 48);
        stopSo("c54444 g1g9g9g9g9g1", 33);
        stopSo("c54444 g2g4g4g3g2", 17);
        PartyWill x = Checks.party("c54444 g6g0g0 x10");
        Checks.unchanging(x, "who are in", x::stops, 6);
        x.tune(0);
        Checks.due("one that is OUT has GRIEF 0, but isn't of a set", x.stops(), 6);
    }

    @Sentence(of = 36, says = "NONE: there is none.")
    static void promise36_noneThereIsNone() {
        Checks.due("stops() without GUESTS", new PartyWill().stops(), PartyWill.NONE);
        stopSo("c94444 g0", PartyWill.NONE);
        stopSo("c94444 g4g5", PartyWill.NONE);
        stopSo("c14444 g1g0", PartyWill.NONE);
        stopSo("c94444 g8g8g8g7g7g7", PartyWill.NONE);
        PartyWill x = Checks.party("c54444 g6g0 x10");
        x.tune(0);
        Checks.unchanging(x, "one is in", x::stops, PartyWill.NONE);
        PartyWill none = Checks.party("c14444 g9g9 x10x01");
        none.tune(0);
        Checks.due("all are OUT", none.stops(), PartyWill.NONE);
        Checks.due("finding()", none.finding(), 0);
    }
}
