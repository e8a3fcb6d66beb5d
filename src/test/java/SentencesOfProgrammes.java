/** Promises 25 to 30, sentence by sentence: programmes. */
final class SentencesOfProgrammes {
    private static final int MOST = Checks.MOST, LEAST = Checks.LEAST;
    /** Silence is by 1, each other tune by 5: behind any other one all but the very first ones fall. */
    private static final String NARROW = "c55999 g0g0 x10";

    private SentencesOfProgrammes() {
    }

    private static PartyWill allOut() {
        PartyWill x = Checks.party("c19999 g9g9 x01x10");
        x.tune(0);
        return x;
    }

    private static void staysSo(PartyWill x, int n, int ways, int openings) {
        Checks.told(x, "stay(" + n + ")", x.stay(n), openings);
        Checks.due("upper() by stay(" + n + ")", x.upper(), ways);
        Checks.due("lower() by stay(" + n + ")", x.lower(), 1);
    }

    @Sentence(of = 25, says = "By how many PROGRAMMES of n TUNES all that are in stay, told by upper() (lower() is "
        + "1); TUNES that can be the first of these by asked() (bits): 1.")
    static void promise25_howManyProgrammes_firstTunes() {
        PartyWill x = Checks.party(NARROW);
        x.odds(2);
        staysSo(x, 0, 1, 0);
        staysSo(x, 1, 4, 15);
        x.odds(2);
        staysSo(x, 2, 1, 1);
        staysSo(x, 5, 1, 1);
        staysSo(x, 6, 0, 0);
        long before = x.digest();
        x.stay(6);
        Checks.due("digest() behind stay()", x.digest(), before);
        PartyWill one = Checks.party("c19999 g9");
        staysSo(one, 1, 4, 15);
        staysSo(one, 6, 4096, 15);
        PartyWill sad = Checks.party("c19999 g9g0 x10");
        staysSo(sad, 0, 1, 0);
        staysSo(sad, 1, 0, 0);
        staysSo(sad, 6, 0, 0);
        staysSo(allOut(), 6, 4096, 15);
        staysSo(Checks.party("c35554 g3g0 x10"), 6, 1, 8);
    }

    @Sentence(of = 25, says = "BAD; STATE: no GUESTS.")
    static void promise25_bad_stateNoGuests() {
        PartyWill none = new PartyWill();
        Checks.refused(none, "stay(0) without GUESTS", () -> none.stay(0), PartyWill.STATE);
        Checks.refused(none, "stay(6) without GUESTS", () -> none.stay(6), PartyWill.STATE);
        Checks.refused(none, "stay(7) without GUESTS", () -> none.stay(7), PartyWill.BAD);
        Checks.refused(none, "stay(-1) without GUESTS", () -> none.stay(-1), PartyWill.BAD);
        PartyWill x = Checks.party(NARROW);
        x.stay(2);
        Checks.refused(x, "stay(7)", () -> x.stay(7), PartyWill.BAD);
        Checks.refused(x, "stay(-1)", () -> x.stay(-1), PartyWill.BAD);
        Checks.refused(x, "stay(most)", () -> x.stay(MOST), PartyWill.BAD);
        Checks.refused(x, "stay(least)", () -> x.stay(LEAST), PartyWill.BAD);
    }

    @Sentence(of = 26, says = "The first such PROGRAMME comes to a ROW (anew): n.")
    static void promise26_firstComesToARowAnew() {
        PartyWill x = Checks.party(NARROW);
        Checks.due("first(0, 0)", x.first(0, 0), 0);
        Checks.rowIs(x, 0);
        Checks.row(x, 5, Checks.times(40, 9));
        Checks.due("first(5, 5), over a full ROW", x.first(5, 5), 5);
        Checks.rowIs(x, 5, 0, 0, 0, 0, 0);
        Checks.due("first(0, 5), over it", x.first(0, 5), 0);
        Checks.rowIs(x, 5);
        PartyWill last = Checks.party("c35554 g3g0 x10");
        Checks.due("first(6, 0)", last.first(6, 0), 6);
        Checks.rowIs(last, 0, 3, 3, 3, 3, 3, 3);
        last.does(0, -1);
        Checks.due("first(6, 0), silence first", last.first(6, 0), 6);
        Checks.rowIs(last, 0, 0, 0, 0, 0, 0, 0);
        last.does(0, 1);
        last.does(3, -1);
        Checks.due("first(3, 1), by the first TUNES first", last.first(3, 1), 3);
        Checks.rowIs(last, 1, 3, 0, 3);
        Checks.due("first(6, 2), all OUT", allOut().first(6, 2), 6);
        PartyWill two = Checks.party("c39664 g1g0 x10");
        Checks.due("first(2, 3)", two.first(2, 3), 2);
        Checks.rowIs(two, 3, 1, 3);
        Checks.due("no DEED", x.count(2), 0);
    }

    @Sentence(of = 26, says = "NONE: there is none.")
    static void promise26_noneThereIsNone() {
        PartyWill x = Checks.party(NARROW);
        Checks.row(x, 0, 7, 8);
        Checks.unchanging(x, "first(6, 0): a ROW that would come stays", () -> x.first(6, 0), PartyWill.NONE);
        Checks.unchanging(x, "first(6, 1): missing still", () -> x.first(6, 1), PartyWill.NONE);
        Checks.due("finding()", x.finding(), 0);
        Checks.rowIs(x, 0, 7, 8);
        Checks.due("count(7)", x.count(7), 1);
        PartyWill sad = Checks.party("c19999 g9g0 x10");
        Checks.due("first(1, 0)", sad.first(1, 0), PartyWill.NONE);
        Checks.due("first(0, 0)", sad.first(0, 0), 0);
    }

    @Sentence(of = 26, says = "BAD; STATE.")
    static void promise26_badState() {
        PartyWill none = new PartyWill();
        Checks.refused(none, "first(0, 0) without GUESTS", () -> none.first(0, 0), PartyWill.STATE);
        Checks.refused(none, "first(7, 0) without GUESTS", () -> none.first(7, 0), PartyWill.BAD);
        Checks.refused(none, "first(0, 6) without GUESTS", () -> none.first(0, 6), PartyWill.BAD);
        PartyWill x = Checks.party(NARROW);
        x.row(0, 2);
        Checks.refused(x, "first(-1, 0)", () -> x.first(-1, 0), PartyWill.BAD);
        Checks.refused(x, "first(7, 0)", () -> x.first(7, 0), PartyWill.BAD);
        Checks.refused(x, "first(most, 0)", () -> x.first(MOST, 0), PartyWill.BAD);
        Checks.refused(x, "first(1, -1)", () -> x.first(1, -1), PartyWill.BAD);
        Checks.refused(x, "first(1, 6)", () -> x.first(1, 6), PartyWill.BAD);
        Checks.refused(x, "first(1, least)", () -> x.first(1, LEAST), PartyWill.BAD);
    }

    @Sentence(of = 27, says = "The fewest that are OUT by a PROGRAMME of n TUNES (any TUNES); the first such comes to "
        + "a ROW (anew).")
    static void promise27_fewestOut_firstSuchComesToARowAnew() {
        PartyWill x = Checks.party(NARROW);
        Checks.due("fewest(0, 0)", x.fewest(0, 0), 0);
        Checks.rowIs(x, 0);
        Checks.row(x, 5, Checks.times(40, 9));
        Checks.due("fewest(5, 5), over a full ROW", x.fewest(5, 5), 0);
        Checks.rowIs(x, 5, 0, 0, 0, 0, 0);
        Checks.due("fewest(6, 5), by any", x.fewest(6, 5), 1);
        Checks.rowIs(x, 5, 0, 0, 0, 0, 0, 0);
        PartyWill all = Checks.party("c19999 g9g9g9g9g9g9 x01x12x23x34x45x50");
        Checks.due("fewest(1, 0), all fall", all.fewest(1, 0), 6);
        Checks.rowIs(all, 0, 0);
        all.does(3, -4);
        Checks.due("fewest(1, 0), by -4 too", all.fewest(1, 0), 6);
        PartyWill two = Checks.party("c39995 g3s3 x10x01");
        Checks.due("fewest(1, 0): both above", two.fewest(1, 0), 2);
        two.does(2, -4);
        two.does(1, 0);
        Checks.due("fewest(6, 0)", two.fewest(6, 0), 0);
        Checks.rowIs(two, 0, 1, 1, 1, 1, 1, 1);
        PartyWill some = Checks.party("c59990 g9g5s5 x20x21x12");
        Checks.due("fewest(1, 0): 9 less 4 is no more", some.fewest(1, 0), 0);
        Checks.rowIs(some, 0, 3);
        PartyWill narrow = Checks.party("c39664 g1g0 x10");
        Checks.due("fewest(2, 3)", narrow.fewest(2, 3), 0);
        Checks.rowIs(narrow, 3, 1, 3);
        PartyWill out = allOut();
        Checks.due("fewest(6, 0), all OUT already", out.fewest(6, 0), 0);
        Checks.rowIs(out, 0, 0, 0, 0, 0, 0, 0);
        Checks.due("no DEED", x.count(2), 0);
    }

    @Sentence(of = 27, says = "BAD; STATE.")
    static void promise27_badState() {
        PartyWill none = new PartyWill();
        Checks.refused(none, "fewest(0, 0) without GUESTS", () -> none.fewest(0, 0), PartyWill.STATE);
        Checks.refused(none, "fewest(7, 0) without GUESTS", () -> none.fewest(7, 0), PartyWill.BAD);
        Checks.refused(none, "fewest(0, 6) without GUESTS", () -> none.fewest(0, 6), PartyWill.BAD);
        PartyWill x = Checks.party(NARROW);
        x.row(0, 2);
        Checks.refused(x, "fewest(-1, 0)", () -> x.fewest(-1, 0), PartyWill.BAD);
        Checks.refused(x, "fewest(7, 0)", () -> x.fewest(7, 0), PartyWill.BAD);
        Checks.refused(x, "fewest(most, 0)", () -> x.fewest(MOST, 0), PartyWill.BAD);
        Checks.refused(x, "fewest(1, -1)", () -> x.fewest(1, -1), PartyWill.BAD);
        Checks.refused(x, "fewest(1, 6)", () -> x.fewest(1, 6), PartyWill.BAD);
        Checks.refused(x, "fewest(1, least)", () -> x.fewest(1, LEAST), PartyWill.BAD);
    }

    @Sentence(of = 28, says = "The fewest TUNES of a PROGRAMME (6 at most) behind which all that are in have a GRIEF "
        + "of 0, and none is OUT by it.")
    static void promise28_fewestTunesToGriefOf0() {
        Checks.due("all gay", Checks.party("c19999 g0y0 x10x01").gay(), 0);
        Checks.due("1", Checks.party("c94434 g1").gay(), 1);
        Checks.due("6", Checks.party("c94434 g6").gay(), 6);
        Checks.due("3 by 4 less, of 9", Checks.party("c93330 g9y9 x01x10").gay(), 3);
        Checks.due("2 unlike ones", Checks.party("c94444 u9d2").gay(), 2);
        Checks.due("to the CLAUSE by the first", Checks.party("c34434 g4g0 x10").gay(), 4);
        PartyWill out = allOut();
        Checks.unchanging(out, "all OUT", out::gay, 0);
        PartyWill one = Checks.party("c33444 g9g2 x10");
        one.tune(0);
        Checks.due("one OUT already", one.gay(), 1);
    }

    @Sentence(of = 28, says = "NONE: by none.")
    static void promise28_noneByNone() {
        PartyWill x = Checks.party("c94434 g7");
        Checks.unchanging(x, "7 would be needed", x::gay, PartyWill.NONE);
        Checks.due("no TUNE is less", Checks.party("c94444 g1").gay(), PartyWill.NONE);
        Checks.due("one is OUT by it", Checks.party("c34434 g5g0 x10").gay(), PartyWill.NONE);
        Checks.due("all are OUT by it", Checks.party("c14434 g9g9 x10x01").gay(), PartyWill.NONE);
    }

    @Sentence(of = 28, says = "STATE.")
    static void promise28_state() {
        PartyWill none = new PartyWill();
        Checks.refused(none, "gay() without GUESTS", none::gay, PartyWill.STATE);
    }

    private static void icesAre(String signs, int want, int... programme) {
        PartyWill x = Checks.party(signs);
        Checks.row(x, 0, programme);
        Checks.due("ices(0) by " + signs + " " + java.util.Arrays.toString(programme), x.ices(0), want);
    }

    @Sentence(of = 29, says = "The fewest ICES, all taken at once now (nobody is looked at ahead of the first TUNE), "
        + "by which nobody is OUT by a PROGRAMME; of all GUESTS together.")
    static void promise29_fewestIcesAtOnce_ofAllTogether() {
        icesAre("c14444 g9g9 x01x10", 0);
        icesAre("c14444 g9g9g9g9g9g9 x01x12x23x34x45x50", 18, 0);
        icesAre("c14444 g1g4 x10x01", 1, 0);
        icesAre("c14444 g2g4 x10x01", 2, 0);
        icesAre("c30444 g9g0 x10", 1, 0);
        icesAre("c30444 g7g0 x10", 0, 0);
        icesAre("c34444 y9g9 x10", 0, 0, 0, 0, 0, 0, 0);
        icesAre("c94445 g4g0 x10", 1, 3, 3, 3, 3, 3, 3);
        icesAre("c94445 g3g0 x10", 0, 3, 3, 3, 3, 3, 3);
        PartyWill x = Checks.party("c34444 g9g3 x10");
        Checks.row(x, 0, 0);
        Checks.unchanging(x, "ices(0)", () -> x.ices(0), 2);
        x.tune(0);
        x.does(0, 5);
        Checks.due("ices(0), it is OUT", x.ices(0), 0);
    }

    @Sentence(of = 29, says = "NONE: by none.")
    static void promise29_noneByNone() {
        icesAre("c19444 g0g0 x10", PartyWill.NONE, 0);
        icesAre("c54445 g9g0 x10", PartyWill.NONE, 3, 3, 3, 3, 3, 3);
        icesAre("c54445 g9g0 x10", 3, 3, 3, 3, 3, 3);
        icesAre("c19444 s0g0 x10", 0, 0);
        icesAre("c19444 s0g0 x10", PartyWill.NONE, 0, 0);
        PartyWill x = Checks.party("c19444 g9g0 x10x01");
        Checks.row(x, 0, 0);
        Checks.unchanging(x, "ices(0)", () -> x.ices(0), PartyWill.NONE);
        Checks.due("finding()", x.finding(), 0);
    }

    @Sentence(of = 29, says = "BAD; STATE: no GUESTS; NOTHING; SIZE; UNLIKE.")
    static void promise29_bad_stateNoGuests_nothingSizeUnlike() {
        PartyWill none = new PartyWill();
        none.row(0, 0);
        Checks.refused(none, "ices(0) without GUESTS", () -> none.ices(0), PartyWill.STATE);
        PartyWill x = Checks.party("c34444 g3");
        Checks.refused(x, "ices(-1)", () -> x.ices(-1), PartyWill.BAD);
        Checks.refused(x, "ices(6)", () -> x.ices(6), PartyWill.BAD);
        Checks.refused(x, "ices(most)", () -> x.ices(MOST), PartyWill.BAD);
        Checks.refused(x, "ices(least)", () -> x.ices(LEAST), PartyWill.BAD);
        Checks.finds(x, "ices(5), missing", () -> x.ices(5), Checks.NOTHING);
        x.row(0, 7);
        Checks.finds(x, "ices(0), of 7", () -> x.ices(0), Checks.SIZE);
        x.row(0, 6);
        x.lay(0, 5, 4);
        Checks.finds(x, "ices(0), the last is 4", () -> x.ices(0), Checks.UNLIKE);
        x.lay(0, 5, -1);
        Checks.finds(x, "ices(0), the last is -1", () -> x.ices(0), Checks.UNLIKE);
        x.lay(0, 5, 3);
        Checks.due("ices(0), of 6", x.ices(0), 0);
    }

    @Sentence(of = 29, says = "(In this order.)")
    static void promise29_inThisOrder() {
        PartyWill none = new PartyWill();
        Checks.refused(none, "BAD ahead of STATE", () -> none.ices(6), PartyWill.BAD);
        Checks.refused(none, "STATE ahead of NOTHING", () -> none.ices(0), PartyWill.STATE);
        Checks.row(none, 0, Checks.times(7, 9));
        Checks.refused(none, "STATE ahead of SIZE", () -> none.ices(0), PartyWill.STATE);
        Checks.row(none, 0, 9);
        Checks.refused(none, "STATE ahead of UNLIKE", () -> none.ices(0), PartyWill.STATE);
        PartyWill x = Checks.party("c34444 g3");
        Checks.row(x, 0, Checks.times(7, 9));
        Checks.finds(x, "SIZE ahead of UNLIKE", () -> x.ices(0), Checks.SIZE);
    }

    @Sentence(of = 30, says = "By turns the band plays a TUNE, an aunt says her name to one that is in (to nobody, if "
        + "none is), n (0 .. 3) times each, the band begins: how many are OUT by all that, the band wanting few, the "
        + "aunt many.")
    static void promise30_bandAndAuntByTurns() {
        PartyWill sad = Checks.party("c19999 g9g9 x10x01");
        Checks.due("aunt(0)", sad.aunt(0), 0);
        Checks.due("aunt(1), both fall by the TUNE, her name to nobody", sad.aunt(1), 2);
        Checks.due("aunt(3)", sad.aunt(3), 2);
        PartyWill x = Checks.party("c54444 g3g0 x10x01");
        Checks.due("aunt(1), to the CLAUSE", x.aunt(1), 0);
        Checks.due("aunt(2), above it", x.aunt(2), 1);
        Checks.unchanging(x, "aunt(3), nobody sees the other one", () -> x.aunt(3), 1);
        Checks.due("the band cheers ahead", Checks.party("c54442 g5g0 x10x01").aunt(1), 0);
        Checks.due("by silence", Checks.party("c52444 g5g0 x10x01").aunt(1), 0);
        Checks.due("by a polka", Checks.party("c54244 g5g0 x10x01").aunt(1), 0);
        Checks.due("by a waltz", Checks.party("c54424 g5g0 x10x01").aunt(1), 0);
        Checks.due("the band can't", Checks.party("c54444 g5g0 x10x01").aunt(1), 1);
        PartyWill out = allOut();
        Checks.due("aunt(0), all OUT", out.aunt(0), 0);
        Checks.due("aunt(3), all OUT", out.aunt(3), 0);
        PartyWill saddest = Checks.party("c94449 y9y9y9y9y9g9");
        Checks.deeds(saddest, 1);
        for (int k = 0; k < 3; k++) {
            saddest.tune(3);
        }
        Checks.due("GRIEF of 20 that nobody sees", saddest.aunt(3), 0);
        Checks.due("none OUT by a SPY", Checks.party("c14444 y9y9 x10x01").aunt(3), 0);
        Checks.due("aunt(3) by six", Checks.party("c24444 g2g2g2g2g2g2 x01x12x23x34x45x50").aunt(3), 3);
    }

    @Sentence(of = 30, says = "BAD; STATE.")
    static void promise30_badState() {
        PartyWill none = new PartyWill();
        Checks.refused(none, "aunt(0) without GUESTS", () -> none.aunt(0), PartyWill.STATE);
        Checks.refused(none, "aunt(3) without GUESTS", () -> none.aunt(3), PartyWill.STATE);
        Checks.refused(none, "aunt(4) without GUESTS", () -> none.aunt(4), PartyWill.BAD);
        PartyWill x = Checks.party("c54444 g3");
        Checks.refused(x, "aunt(-1)", () -> x.aunt(-1), PartyWill.BAD);
        Checks.refused(x, "aunt(4)", () -> x.aunt(4), PartyWill.BAD);
        Checks.refused(x, "aunt(most)", () -> x.aunt(MOST), PartyWill.BAD);
        Checks.refused(x, "aunt(least)", () -> x.aunt(LEAST), PartyWill.BAD);
    }
}
