/** Promises 21 to 24, sentence by sentence: who would be out. */
final class SentencesAside {
    private static final int MOST = Checks.MOST, LEAST = Checks.LEAST;

    private SentencesAside() {
    }

    @Sentence(of = 21, says = "Who would be OUT by a TUNE now (bits); how much GRIEF all would have together then by "
        + "asked().")
    static void promise21_whoWouldBeOut_allGriefByAsked() {
        PartyWill none = new PartyWill();
        Checks.due("out(0) without GUESTS", none.out(0), 0);
        Checks.due("asked()", none.asked(), 0);
        PartyWill x = Checks.party("c54445 g5g4g9y9 x10x01x03x13");
        long before = x.digest();
        Checks.due("out(0), nobody", x.out(0), 0);
        Checks.due("asked()", x.asked(), 27);
        Checks.due("out(3), one", x.out(3), 1);
        Checks.due("asked(), of who is OUT then 0", x.asked(), 5 + 10 + 10);
        Checks.due("digest() behind out()", x.digest(), before);
        PartyWill all = Checks.party("c14448 g9g9g9g9g9g9 x01x12x23x34x45x50");
        Checks.due("out(0), all", all.out(0), 63);
        Checks.due("asked()", all.asked(), 0);
        all.tune(0);
        Checks.due("out(3), all OUT already", all.out(3), 0);
        Checks.due("asked()", all.asked(), 0);
        PartyWill most = Checks.party("c14449 g9g9g9g9g9g9");
        Checks.due("out(3)", most.out(3), 0);
        Checks.due("asked() by 14 each", most.asked(), 84);
        most.tune(3);
        most.tune(3);
        Checks.due("out(3)", most.out(3), 0);
        Checks.due("asked() by 20 each", most.asked(), 120);
        most.does(0, -4);
        Checks.due("out(0)", most.out(0), 0);
        Checks.due("asked() by 15 each", most.asked(), 90);
    }

    @Sentence(of = 21, says = "BAD.")
    static void promise21_bad() {
        PartyWill none = new PartyWill();
        Checks.refused(none, "out(4) without GUESTS", () -> none.out(4), PartyWill.BAD);
        PartyWill x = Checks.party("c34444 g3");
        x.out(0);
        Checks.refused(x, "out(-1)", () -> x.out(-1), PartyWill.BAD);
        Checks.refused(x, "out(4)", () -> x.out(4), PartyWill.BAD);
        Checks.refused(x, "out(most)", () -> x.out(MOST), PartyWill.BAD);
        Checks.refused(x, "out(least)", () -> x.out(LEAST), PartyWill.BAD);
        Checks.due("asked()", x.asked(), 3);
    }

    @Sentence(of = 22, says = "TUNES (bits) by which nobody would be OUT now.")
    static void promise22_tunesByWhichNobodyWouldBeOut() {
        Checks.due("none of them", Checks.party("c19999 g9g0 x10").safe(), 0);
        Checks.due("all of them, seen by nobody", Checks.party("c19999 g9").safe(), 15);
        Checks.due("at the CLAUSE, above by the air alone", Checks.party("c34445 g3g0 x10").safe(), 7);
        Checks.due("by silence alone", Checks.party("c34555 g3g0 x10").safe(), 1);
        Checks.due("by the air alone", Checks.party("c35554 g3g0 x10").safe(), 8);
        Checks.due("of a SPY all", Checks.party("c19999 y9g0 x10").safe(), 15);
        PartyWill x = Checks.party("c19999 g9g0 x10x01");
        x.tune(0);
        Checks.unchanging(x, "all are OUT", x::safe, 15);
    }

    @Sentence(of = 22, says = "STATE: no GUESTS.")
    static void promise22_stateNoGuests() {
        PartyWill none = new PartyWill();
        Checks.refused(none, "safe() without GUESTS", none::safe, PartyWill.STATE);
    }

    @Sentence(of = 23, says = "The first place of a PROGRAMME at which somebody is OUT; who (bits) by asked().")
    static void promise23_firstPlace_whoByAsked() {
        PartyWill x = Checks.party("c64445 g1g5g0 x10x01x21");
        long party = x.digest();
        Checks.row(x, 0, 3, 3, 3, 3, 3, 3);
        Checks.due("falls at the second of six", x.falls(0), 1);
        Checks.due("asked(), who is at that place alone", x.asked(), 2);
        Checks.row(x, 1, 2, 3, 3);
        Checks.due("falls at the last of three", x.falls(1), 2);
        Checks.due("asked()", x.asked(), 2);
        x.does(0, 5);
        Checks.row(x, 2, 0);
        Checks.due("falls at the only one", x.falls(2), 0);
        Checks.due("asked()", x.asked(), 2);
        PartyWill y = Checks.party("c64445 g1g9g1 x01x20x02");
        Checks.row(y, 0, 3, 3, 3, 3, 3, 3);
        Checks.due("falls at once", y.falls(0), 0);
        Checks.due("asked()", y.asked(), 2);
        y.tune(0);
        Checks.due("falls at the sixth of six", y.falls(0), 5);
        Checks.due("asked(), two at once", y.asked(), 5);
        x.tear(0);
        x.tear(1);
        x.tear(2);
        x.does(0, 0);
        Checks.due("the PARTY is as it was", x.digest(), party);
    }

    @Sentence(of = 23, says = "NONE: nobody is (asked() 0).")
    static void promise23_noneNobodyIs_asked0() {
        PartyWill x = Checks.party("c64445 g1g0 x10");
        x.row(1, 0);
        x.guest(0, 1);
        Checks.due("falls by no TUNES", x.falls(1), PartyWill.NONE);
        Checks.due("asked()", x.asked(), 0);
        Checks.row(x, 0, 3, 3, 3, 3, 3);
        x.guest(0, 1);
        Checks.due("five airs, to the CLAUSE", x.falls(0), PartyWill.NONE);
        Checks.due("asked()", x.asked(), 0);
        Checks.row(x, 0, 3, 3, 3, 3, 3, 3);
        Checks.due("six airs, above it", x.falls(0), 5);
        Checks.due("asked()", x.asked(), 1);
        x.does(3, 5);
        x.tune(3);
        x.tune(3);
        x.guest(0, 2);
        Checks.due("who falls is OUT already", x.falls(0), PartyWill.NONE);
        Checks.due("asked()", x.asked(), 0);
        Checks.due("finding() by NONE", x.finding(), 0);
    }

    @Sentence(of = 23, says = "BAD; NOTHING; SIZE: more than 6; UNLIKE: no TUNE.")
    static void promise23_badNothing_sizeMoreThan6_unlikeNoTune() {
        PartyWill x = Checks.party("c34445 g3g0 x10");
        Checks.row(x, 0, 3);
        x.falls(0);
        Checks.refused(x, "falls(-1)", () -> x.falls(-1), PartyWill.BAD);
        Checks.refused(x, "falls(6)", () -> x.falls(6), PartyWill.BAD);
        Checks.refused(x, "falls(most)", () -> x.falls(MOST), PartyWill.BAD);
        Checks.refused(x, "falls(least)", () -> x.falls(LEAST), PartyWill.BAD);
        Checks.finds(x, "falls(5), missing", () -> x.falls(5), Checks.NOTHING);
        x.row(1, 7);
        Checks.finds(x, "falls(1), of 7", () -> x.falls(1), Checks.SIZE);
        x.row(1, 40);
        Checks.finds(x, "falls(1), of 40", () -> x.falls(1), Checks.SIZE);
        int[] noTunes = {-1, 4, MOST, LEAST};
        for (int v : noTunes) {
            x.row(2, 6);
            x.lay(2, 5, v);
            Checks.finds(x, "falls(2), the last one is " + v, () -> x.falls(2), Checks.UNLIKE);
        }
        Checks.row(x, 3, 3, 4);
        Checks.finds(x, "no TUNE behind the place where one falls", () -> x.falls(3), Checks.UNLIKE);
    }

    @Sentence(of = 23, says = "(In this order; without GUESTS as well.)")
    static void promise23_inThisOrder_withoutGuestsAsWell() {
        PartyWill x = new PartyWill();
        Checks.refused(x, "falls(6)", () -> x.falls(6), PartyWill.BAD);
        Checks.finds(x, "falls(0), missing", () -> x.falls(0), Checks.NOTHING);
        Checks.row(x, 0, Checks.times(7, 9));
        Checks.finds(x, "SIZE ahead of UNLIKE", () -> x.falls(0), Checks.SIZE);
        Checks.row(x, 0, Checks.times(6, 9));
        Checks.finds(x, "UNLIKE", () -> x.falls(0), Checks.UNLIKE);
        Checks.row(x, 0, Checks.times(6, 3));
        Checks.due("falls(0)", x.falls(0), PartyWill.NONE);
        Checks.due("asked()", x.asked(), 0);
        x.row(0, 0);
        Checks.due("falls(0) of none", x.falls(0), PartyWill.NONE);
    }

    @Sentence(of = 24, says = "The GRIEF of a GUEST behind a PROGRAMME (of who is OUT then 0).")
    static void promise24_griefBehindAProgramme_outThen0() {
        PartyWill x = Checks.party("c60459 g1m9y9g6 x30x03");
        x.row(0, 0);
        Checks.due("behind no TUNES, 0", x.grief(0, 0), 1);
        Checks.due("behind no TUNES, 3", x.grief(3, 0), 6);
        Checks.row(x, 0, Checks.times(6, 3));
        long before = x.digest();
        Checks.due("seen by one who is OUT then", x.grief(0, 0), 20);
        Checks.due("OUT by the first one, 0 behind six", x.grief(3, 0), 0);
        Checks.due("20 at most", x.grief(1, 0), 20);
        Checks.due("a SPY, 1 each", x.grief(2, 0), 15);
        Checks.due("digest() behind grief()", x.digest(), before);
        Checks.row(x, 1, Checks.times(6, 0));
        for (int i = 0; i < 4; i++) {
            Checks.due("0 at least, " + i, x.grief(i, 1), 0);
        }
        x.tune(3);
        Checks.told(x, "guest(0, 1)", x.guest(0, 1), 6);
        Checks.due("OUT already, 0 stays", x.grief(3, 0), 0);
        Checks.due("6 behind an air, then silence", x.grief(0, 1), 0);
        Checks.due("asked() stays", x.asked(), 6);
    }

    @Sentence(of = 24, says = "BAD; NOTHING; SIZE; UNLIKE.")
    static void promise24_badNothingSizeUnlike() {
        PartyWill none = new PartyWill();
        none.row(0, 1);
        Checks.refused(none, "grief(0, 0) without GUESTS", () -> none.grief(0, 0), PartyWill.BAD);
        PartyWill x = Checks.party("c34445 g3g0 x10");
        x.row(0, 6);
        Checks.refused(x, "grief(-1, 0)", () -> x.grief(-1, 0), PartyWill.BAD);
        Checks.refused(x, "grief(2, 0)", () -> x.grief(2, 0), PartyWill.BAD);
        Checks.refused(x, "grief(most, 0)", () -> x.grief(MOST, 0), PartyWill.BAD);
        Checks.refused(x, "grief(0, -1)", () -> x.grief(0, -1), PartyWill.BAD);
        Checks.refused(x, "grief(0, 6)", () -> x.grief(0, 6), PartyWill.BAD);
        Checks.refused(x, "grief(0, least)", () -> x.grief(0, LEAST), PartyWill.BAD);
        Checks.finds(x, "grief(0, 5), missing", () -> x.grief(0, 5), Checks.NOTHING);
        x.row(1, 7);
        Checks.finds(x, "grief(0, 1), of 7", () -> x.grief(0, 1), Checks.SIZE);
        x.lay(0, 5, 4);
        Checks.finds(x, "grief(0, 0), the last is 4", () -> x.grief(0, 0), Checks.UNLIKE);
        x.lay(0, 5, -1);
        Checks.finds(x, "grief(0, 0), the last is -1", () -> x.grief(0, 0), Checks.UNLIKE);
    }

    @Sentence(of = 24, says = "(In this order.)")
    static void promise24_inThisOrder() {
        PartyWill x = Checks.party("c34445 g3");
        Checks.refused(x, "BAD (the GUEST) ahead of NOTHING", () -> x.grief(1, 0), PartyWill.BAD);
        Checks.finds(x, "NOTHING", () -> x.grief(0, 0), Checks.NOTHING);
        Checks.row(x, 0, Checks.times(7, 9));
        Checks.refused(x, "BAD ahead of SIZE", () -> x.grief(-1, 0), PartyWill.BAD);
        Checks.finds(x, "SIZE ahead of UNLIKE", () -> x.grief(0, 0), Checks.SIZE);
        Checks.row(x, 0, 9);
        Checks.finds(x, "UNLIKE", () -> x.grief(0, 0), Checks.UNLIKE);
    }
}
