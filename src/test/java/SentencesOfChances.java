/** Promises 37 to 39, sentence by sentence: chances, lots. */
final class SentencesOfChances {
    private static final int MOST = Checks.MOST, LEAST = Checks.LEAST;
    private static final int LAST_SEED = 2147483646;
    /** Silence is by 1, each other tune by 5: of six tunes six silences alone keep the guest. */
    private static final String NARROW = "c65999 g0g0 x10";

    private SentencesOfChances() {
    }

    private static PartyWill allOut() {
        PartyWill x = Checks.party("c19999 g9g9 x01x10");
        x.tune(0);
        return x;
    }

    @Sentence(of = 37, says = "Chances that nobody is OUT by n (0 .. 6) TUNES, each of the four alike likely: 1.")
    static void promise37_chancesThatNobodyIsOut() {
        PartyWill x = Checks.party(NARROW);
        Checks.share(x, "odds(0)", x.odds(0), 1, 1);
        Checks.share(x, "odds(1)", x.odds(1), 1, 1);
        Checks.share(x, "odds(2)", x.odds(2), 7, 16);
        Checks.share(x, "odds(6)", x.odds(6), 1, 4096);
        PartyWill half = Checks.party("c34455 g3g0 x10");
        Checks.share(half, "odds(1), a half", half.odds(1), 1, 2);
        Checks.share(half, "odds(6), a half each", half.odds(6), 1, 64);
        PartyWill sad = Checks.party("c19999 g9g0 x10");
        Checks.share(sad, "odds(0), sad", sad.odds(0), 1, 1);
        Checks.share(sad, "odds(1), 0 by 1", sad.odds(1), 0, 1);
        Checks.share(sad, "odds(6), 0 by 1", sad.odds(6), 0, 1);
        PartyWill out = allOut();
        Checks.share(out, "odds(6), all OUT", out.odds(6), 1, 1);
        long before = x.digest();
        x.odds(6);
        Checks.due("digest() behind odds()", x.digest(), before);
    }

    @Sentence(of = 37, says = "BAD; STATE.")
    static void promise37_badState() {
        PartyWill none = new PartyWill();
        Checks.refused(none, "odds(0) without GUESTS", () -> none.odds(0), PartyWill.STATE);
        Checks.refused(none, "odds(6) without GUESTS", () -> none.odds(6), PartyWill.STATE);
        Checks.refused(none, "odds(7) without GUESTS", () -> none.odds(7), PartyWill.BAD);
        PartyWill x = Checks.party(NARROW);
        x.odds(2);
        Checks.refused(x, "odds(-1)", () -> x.odds(-1), PartyWill.BAD);
        Checks.refused(x, "odds(7)", () -> x.odds(7), PartyWill.BAD);
        Checks.refused(x, "odds(most)", () -> x.odds(MOST), PartyWill.BAD);
        Checks.refused(x, "odds(least)", () -> x.odds(LEAST), PartyWill.BAD);
    }

    @Sentence(of = 38, says = "The mean of how many are OUT then (of those that are in now): 1.")
    static void promise38_meanOfHowManyAreOut() {
        PartyWill x = Checks.party(NARROW);
        Checks.share(x, "mid(0)", x.mid(0), 0, 1);
        Checks.share(x, "mid(1)", x.mid(1), 0, 1);
        Checks.share(x, "mid(2)", x.mid(2), 9, 16);
        Checks.share(x, "mid(6)", x.mid(6), 4095, 4096);
        PartyWill all = Checks.party("c19999 g9g9g9g9g9g9 x01x12x23x34x45x50");
        Checks.share(all, "mid(0), sad", all.mid(0), 0, 1);
        Checks.share(all, "mid(1), all six", all.mid(1), 6, 1);
        Checks.share(all, "mid(6), all six", all.mid(6), 6, 1);
        PartyWill half = Checks.party("c34455 g3g3g0g9 x10x01x23");
        Checks.share(half, "mid(1): one for sure, two by a half", half.mid(1), 2, 1);
        half.tune(0);
        Checks.share(half, "mid(1): who is OUT now doesn't count", half.mid(1), 1, 1);
        Checks.share(half, "mid(2)", half.mid(2), 3, 2);
        PartyWill out = allOut();
        Checks.share(out, "mid(6), all OUT", out.mid(6), 0, 1);
        long before = x.digest();
        x.mid(6);
        Checks.due("digest() behind mid()", x.digest(), before);
    }

    @Sentence(of = 38, says = "BAD; STATE.")
    static void promise38_badState() {
        PartyWill none = new PartyWill();
        Checks.refused(none, "mid(0) without GUESTS", () -> none.mid(0), PartyWill.STATE);
        Checks.refused(none, "mid(6) without GUESTS", () -> none.mid(6), PartyWill.STATE);
        Checks.refused(none, "mid(7) without GUESTS", () -> none.mid(7), PartyWill.BAD);
        PartyWill x = Checks.party(NARROW);
        x.mid(2);
        Checks.refused(x, "mid(-1)", () -> x.mid(-1), PartyWill.BAD);
        Checks.refused(x, "mid(7)", () -> x.mid(7), PartyWill.BAD);
        Checks.refused(x, "mid(most)", () -> x.mid(MOST), PartyWill.BAD);
        Checks.refused(x, "mid(least)", () -> x.mid(LEAST), PartyWill.BAD);
    }

    private static void lotsLikeTunes(String signs, int n, int seed) {
        PartyWill x = Checks.party(signs);
        PartyWill y = Checks.party(signs);
        long lot = seed;
        int out = 0;
        for (int k = 0; k < n; k++) {
            lot = lot * 48271 % 2147483647;
            out += Integer.bitCount(y.tune((int) (lot / 16 % 4)));
        }
        Checks.due("lots(" + n + ", " + seed + ")", x.lots(n, seed), out);
        Checks.due("all is as by the TUNES", x.digest(), y.digest());
        Checks.due("DEEDS", x.count(2), n);
    }

    @Sentence(of = 39, says = "n (1 .. 20) TUNES truly by LOTS of a seed (each number by 16, cut, modulo 4): how many "
        + "are OUT by them.")
    static void promise39_tunesByLots_howManyAreOut() {
        int[] seeds = {1, 2, 48271, 1000000007, LAST_SEED - 1, LAST_SEED};
        for (int seed : seeds) {
            lotsLikeTunes("c92567 g0d1s2m3u4y5 x01x12x20x34x43x03", 20, seed);
            lotsLikeTunes("c92567 g0d1s2m3u4y5 x01x12x20x34x43x03", 1, seed);
        }
        PartyWill x = Checks.party("c94567 g0g0");
        Checks.due("seed 1: silence", x.lots(1, 1), 0);
        Checks.griefs(x, "behind silence", 0, 0);
        Checks.due("seed 2147483646: an air", x.lots(1, LAST_SEED), 0);
        Checks.griefs(x, "behind an air", 3, 3);
        PartyWill sad = Checks.party("c19999 g9g9g0 x01x10");
        Checks.due("two at once", sad.lots(1, 1), 2);
        Checks.due("those that were OUT ahead don't count", sad.lots(20, 7), 0);
        Checks.due("undo(1): each is a DEED", sad.undo(1), 20);
        Checks.due("asked() stays", sad.asked(), 0);
    }

    @Sentence(of = 39, says = "BAD; STATE: no GUESTS; FULL: with n more there would be more than 40 DEEDS.")
    static void promise39_bad_stateNoGuests_fullMoreThan40() {
        PartyWill none = new PartyWill();
        Checks.refused(none, "lots(1, 1) without GUESTS", () -> none.lots(1, 1), PartyWill.STATE);
        Checks.refused(none, "lots(21, 1) without GUESTS", () -> none.lots(21, 1), PartyWill.BAD);
        PartyWill x = Checks.party("c94444 g0");
        int[][] bad = {{0, 1}, {21, 1}, {-1, 1}, {MOST, 1}, {LEAST, 1}, {1, 0}, {1, -1}, {1, MOST}, {1, LEAST}};
        for (int[] b : bad) {
            Checks.refused(x, "lots(" + b[0] + ", " + b[1] + ")", () -> x.lots(b[0], b[1]), PartyWill.BAD);
        }
        Checks.due("lots(20, 1)", x.lots(20, 1), 0);
        Checks.deeds(x, 21);
        Checks.refused(x, "20 more would be 41", () -> x.lots(20, 1), PartyWill.FULL);
        Checks.due("19 more are 40", x.lots(19, 1), 0);
        Checks.due("DEEDS", x.count(2), 40);
        Checks.refused(x, "1 more would be 41", () -> x.lots(1, 1), PartyWill.FULL);
        x.undo(20);
        Checks.due("20 more are 40", x.lots(20, LAST_SEED), 0);
    }

    @Sentence(of = 39, says = "(FULL last.)")
    static void promise39_fullLast() {
        PartyWill x = Checks.party("c94444 g0");
        Checks.deeds(x, 40);
        Checks.refused(x, "lots(0, 1), full", () -> x.lots(0, 1), PartyWill.BAD);
        Checks.refused(x, "lots(21, 1), full", () -> x.lots(21, 1), PartyWill.BAD);
        Checks.refused(x, "lots(1, 0), full", () -> x.lots(1, 0), PartyWill.BAD);
        Checks.refused(x, "lots(1, 1), full", () -> x.lots(1, 1), PartyWill.FULL);
    }
}
