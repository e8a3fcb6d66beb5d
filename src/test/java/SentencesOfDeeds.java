/** Promises 15 to 20, sentence by sentence: deeds. */
final class SentencesOfDeeds {
    private static final int MOST = Checks.MOST, LEAST = Checks.LEAST;

    private SentencesOfDeeds() {
    }

    @Sentence(of = 15, says = "A TUNE is played: who is OUT by it (bits).")
    static void promise15_whoIsOutByIt() {
        PartyWill x = Checks.party("c54445 g5g4g9y9 x10x01x03x13");
        Checks.due("at the CLAUSE nobody is", x.tune(0), 0);
        Checks.due("one above it, seen", x.tune(3), 1);
        Checks.griefs(x, "behind an air", 0, 5, 10, 10);
        Checks.due("seen by nobody but one who is OUT", x.tune(3), 0);
        Checks.due("DEEDS", x.count(2), 3);
        PartyWill all = Checks.party("c14445 g9g9g9g9g9g9 x01x12x23x34x45x50");
        Checks.due("all six", all.tune(0), 63);
        Checks.due("none is in", all.tune(3), 0);
        Checks.due("DEEDS", all.count(2), 2);
        Checks.due("the last one alone", Checks.party("c14441 g1g1g1g1g1g9 x05").tune(0), 32);
        Checks.due("the last TUNE", Checks.party("c34449 g0g0 x10").tune(3), 1);
        Checks.due("asked() stays by tune()", all.asked(), 0);
    }

    @Sentence(of = 15, says = "BAD; STATE: no GUESTS; FULL: 40 DEEDS.")
    static void promise15_bad_stateNoGuests_full40Deeds() {
        PartyWill none = new PartyWill();
        Checks.refused(none, "tune(0) without GUESTS", () -> none.tune(0), PartyWill.STATE);
        Checks.refused(none, "tune(4) without GUESTS", () -> none.tune(4), PartyWill.BAD);
        PartyWill x = Checks.party("c94444 g4");
        Checks.refused(x, "tune(-1)", () -> x.tune(-1), PartyWill.BAD);
        Checks.refused(x, "tune(4)", () -> x.tune(4), PartyWill.BAD);
        Checks.refused(x, "tune(most)", () -> x.tune(MOST), PartyWill.BAD);
        Checks.refused(x, "tune(least)", () -> x.tune(LEAST), PartyWill.BAD);
        Checks.deeds(x, 39);
        Checks.due("the 40th", x.tune(3), 0);
        Checks.due("DEEDS", x.count(2), 40);
        Checks.refused(x, "the 41st", () -> x.tune(3), PartyWill.FULL);
        x.undo(39);
        Checks.due("the 40th again", x.tune(3), 0);
    }

    @Sentence(of = 15, says = "(FULL last.)")
    static void promise15_fullLast() {
        PartyWill x = Checks.party("c94444 g4");
        Checks.deeds(x, 40);
        Checks.refused(x, "tune(4), full", () -> x.tune(4), PartyWill.BAD);
        Checks.refused(x, "tune(-1), full", () -> x.tune(-1), PartyWill.BAD);
        Checks.refused(x, "tune(0), full", () -> x.tune(0), PartyWill.FULL);
    }

    @Sentence(of = 16, says = "Her name is SAID to one: its GRIEF then (of who is OUT by it: 0).")
    static void promise16_itsGriefThen_outByIt0() {
        PartyWill x = Checks.party("c34444 g0d0s0m0u0y0");
        int[] want = {2, 2, 1, 4, 2, 1};
        for (int i = 0; i < 6; i++) {
            Checks.due("say(" + i + ")", x.say(i), want[i]);
        }
        Checks.griefs(x, "behind names", want);
        Checks.due("DEEDS", x.count(2), 6);
        PartyWill seen = Checks.party("c34444 g1g2g4 x10x01");
        Checks.due("3, at the CLAUSE", seen.say(0), 3);
        Checks.due("4, above it, OUT", seen.say(1), 0);
        Checks.told(seen, "guest(1, 2)", seen.guest(1, 2), 1);
        Checks.due("5, above it, seen by one who is OUT", seen.say(0), 5);
        Checks.due("6, seen by nobody", seen.say(2), 6);
        PartyWill most = Checks.party("c94444 g9m9s9");
        int[] wantMost = {11, 13, 15, 17, 19, 20, 20};
        for (int k = 0; k < wantMost.length; k++) {
            Checks.due("say(0) " + k, most.say(0), wantMost[k]);
        }
        Checks.due("say(1) from 9", most.say(1), 13);
        Checks.due("say(1) from 13", most.say(1), 17);
        Checks.due("say(1) from 17", most.say(1), 20);
        Checks.due("say(2)", most.say(2), 10);
    }

    @Sentence(of = 16, says = "BAD; STATE: it is OUT; FULL.")
    static void promise16_bad_stateItIsOut_full() {
        PartyWill none = new PartyWill();
        Checks.refused(none, "say(0) without GUESTS", () -> none.say(0), PartyWill.BAD);
        PartyWill x = Checks.party("c34444 g4y1 x10");
        x.tune(0);
        Checks.refused(x, "say(-1)", () -> x.say(-1), PartyWill.BAD);
        Checks.refused(x, "say(2)", () -> x.say(2), PartyWill.BAD);
        Checks.refused(x, "say(most)", () -> x.say(MOST), PartyWill.BAD);
        Checks.refused(x, "say(least)", () -> x.say(LEAST), PartyWill.BAD);
        Checks.refused(x, "say(0), OUT", () -> x.say(0), PartyWill.STATE);
        Checks.deeds(x, 39);
        Checks.due("the 40th", x.say(1), 2);
        Checks.refused(x, "the 41st", () -> x.say(1), PartyWill.FULL);
        x.undo(0);
        Checks.due("say(0), in again", x.say(0), 0);
    }

    @Sentence(of = 16, says = "(FULL last.)")
    static void promise16_fullLast() {
        PartyWill x = Checks.party("c34444 g4y1 x10");
        Checks.deeds(x, 40);
        Checks.refused(x, "say(2), full", () -> x.say(2), PartyWill.BAD);
        Checks.refused(x, "say(0), OUT, full", () -> x.say(0), PartyWill.STATE);
        Checks.refused(x, "say(1), full", () -> x.say(1), PartyWill.FULL);
    }

    @Sentence(of = 17, says = "An ICE is taken by one: its GRIEF then.")
    static void promise17_itsGriefThen() {
        PartyWill x = Checks.party("c34444 g9d2s3m4u0y9");
        int[] want = {6, 0, 0, 1, 0, 6};
        for (int i = 0; i < 6; i++) {
            Checks.due("ice(" + i + ")", x.ice(i), want[i]);
        }
        Checks.griefs(x, "behind ICES", want);
        Checks.due("ice(4) at 0", x.ice(4), 0);
        Checks.due("DEEDS", x.count(2), 7);
        PartyWill seen = Checks.party("c34444 g6g7 x10x01");
        Checks.due("7 less 3, above the CLAUSE, OUT", seen.ice(1), 0);
        Checks.told(seen, "guest(1, 2)", seen.guest(1, 2), 1);
        Checks.told(seen, "guest(0, 2), 6, OUT by it as well", seen.guest(0, 2), 1);
        seen.undo(0);
        Checks.due("6 less 3, at the CLAUSE", seen.ice(0), 3);
        Checks.told(seen, "guest(1, 2), 7, OUT by another one's ICE", seen.guest(1, 2), 1);
    }

    @Sentence(of = 17, says = "BAD; STATE: it is OUT; FULL.")
    static void promise17_bad_stateItIsOut_full() {
        PartyWill none = new PartyWill();
        Checks.refused(none, "ice(0) without GUESTS", () -> none.ice(0), PartyWill.BAD);
        PartyWill x = Checks.party("c34444 g4y7 x10");
        x.tune(0);
        Checks.refused(x, "ice(-1)", () -> x.ice(-1), PartyWill.BAD);
        Checks.refused(x, "ice(2)", () -> x.ice(2), PartyWill.BAD);
        Checks.refused(x, "ice(most)", () -> x.ice(MOST), PartyWill.BAD);
        Checks.refused(x, "ice(least)", () -> x.ice(LEAST), PartyWill.BAD);
        Checks.refused(x, "ice(0), OUT", () -> x.ice(0), PartyWill.STATE);
        Checks.deeds(x, 39);
        Checks.due("the 40th", x.ice(1), 4);
        Checks.refused(x, "the 41st", () -> x.ice(1), PartyWill.FULL);
        x.undo(0);
        Checks.due("ice(0), in again", x.ice(0), 1);
    }

    @Sentence(of = 17, says = "(FULL last.)")
    static void promise17_fullLast() {
        PartyWill x = Checks.party("c34444 g4y1 x10");
        Checks.deeds(x, 40);
        Checks.refused(x, "ice(2), full", () -> x.ice(2), PartyWill.BAD);
        Checks.refused(x, "ice(0), OUT, full", () -> x.ice(0), PartyWill.STATE);
        Checks.refused(x, "ice(1), full", () -> x.ice(1), PartyWill.FULL);
    }

    @Sentence(of = 18, says = "DEEDS from number n on (0 to how many there are: none then) are undone (what TUNES do "
        + "stays): how many.")
    static void promise18_deedsAreUndone_howMany() {
        PartyWill none = new PartyWill();
        Checks.due("undo(0) without GUESTS", none.undo(0), 0);
        PartyWill x = Checks.party("c35344 g3g0 x10");
        Checks.due("undo(0) without DEEDS", x.undo(0), 0);
        x.say(1);
        Checks.due("tune(0)", x.tune(0), 1);
        x.ice(1);
        Checks.unchanging(x, "undo(3) of 3", () -> x.undo(3), 0);
        Checks.due("undo(2) of 3", x.undo(2), 1);
        Checks.griefs(x, "behind 2 DEEDS", 0, 3);
        x.does(0, -3);
        x.does(3, 5);
        Checks.due("undo(1) of 2", x.undo(1), 1);
        Checks.griefs(x, "who was OUT is in", 3, 2);
        Checks.told(x, "guest(0, 2)", x.guest(0, 2), 0);
        Checks.due("what silence does stays", x.does(0, 1), -3);
        Checks.due("what an air does stays", x.does(3, 0), 5);
        Checks.due("undo(0) of 1", x.undo(0), 1);
        Checks.griefs(x, "as they came", 3, 0);
        Checks.deeds(x, 40);
        Checks.due("undo(40) of 40", x.undo(40), 0);
        Checks.due("undo(39) of 40", x.undo(39), 1);
        Checks.due("undo(0) of 39", x.undo(0), 39);
        Checks.griefs(x, "as they came", 3, 0);
        Checks.due("DEEDS", x.count(2), 0);
    }

    @Sentence(of = 18, says = "BAD.")
    static void promise18_bad() {
        PartyWill none = new PartyWill();
        Checks.refused(none, "undo(1) without GUESTS", () -> none.undo(1), PartyWill.BAD);
        Checks.refused(none, "undo(-1) without GUESTS", () -> none.undo(-1), PartyWill.BAD);
        PartyWill x = Checks.party("c34444 g3");
        Checks.refused(x, "undo(1) without DEEDS", () -> x.undo(1), PartyWill.BAD);
        Checks.deeds(x, 2);
        Checks.refused(x, "undo(3) of 2", () -> x.undo(3), PartyWill.BAD);
        Checks.refused(x, "undo(-1)", () -> x.undo(-1), PartyWill.BAD);
        Checks.refused(x, "undo(most)", () -> x.undo(MOST), PartyWill.BAD);
        Checks.refused(x, "undo(least)", () -> x.undo(LEAST), PartyWill.BAD);
        Checks.deeds(x, 40);
        Checks.refused(x, "undo(41) of 40", () -> x.undo(41), PartyWill.BAD);
    }

    @Sentence(of = 19, says = "The PARTY (GUESTS, DEEDS; not what TUNES do) is kept in a place (0 .. 2): how many "
        + "DEEDS.")
    static void promise19_partyIsKept_howManyDeeds() {
        PartyWill x = Checks.party("c35344 g3g0 x10");
        Checks.due("keep(0) without DEEDS", x.keep(0), 0);
        Checks.due("tune(0)", x.tune(0), 1);
        Checks.due("keep(2), one OUT", x.keep(2), 1);
        Checks.due("kept", x.count(9), 2);
        Checks.deeds(x, 40);
        Checks.due("keep(1), full", x.keep(1), 40);
        Checks.due("kept", x.count(9), 3);
        x.undo(2);
        Checks.due("keep(1) over another one", x.keep(1), 2);
        Checks.due("kept still", x.count(9), 3);
        x.does(0, -2);
        Checks.due("on(1)", x.on(1), 2);
        Checks.due("what silence does is not kept", x.does(0, 1), -2);
        Checks.griefs(x, "as kept in 1", 0, 2);
        Checks.due("on(0)", x.on(0), 0);
        Checks.griefs(x, "as kept in 0", 3, 0);
        Checks.due("on(2)", x.on(2), 1);
        Checks.griefs(x, "as kept in 2", 0, 1);
    }

    @Sentence(of = 19, says = "BAD; STATE: no GUESTS.")
    static void promise19_bad_stateNoGuests() {
        PartyWill none = new PartyWill();
        Checks.refused(none, "keep(0) without GUESTS", () -> none.keep(0), PartyWill.STATE);
        Checks.refused(none, "keep(2) without GUESTS", () -> none.keep(2), PartyWill.STATE);
        Checks.refused(none, "keep(3) without GUESTS", () -> none.keep(3), PartyWill.BAD);
        PartyWill x = Checks.party("c34444 g3");
        Checks.refused(x, "keep(-1)", () -> x.keep(-1), PartyWill.BAD);
        Checks.refused(x, "keep(3)", () -> x.keep(3), PartyWill.BAD);
        Checks.refused(x, "keep(most)", () -> x.keep(MOST), PartyWill.BAD);
        Checks.refused(x, "keep(least)", () -> x.keep(LEAST), PartyWill.BAD);
    }

    @Sentence(of = 20, says = "The PARTY is as it was kept: how many DEEDS.")
    static void promise20_partyIsAsItWasKept_howManyDeeds() {
        PartyWill x = Checks.party("c35344 g3g0 x10");
        x.keep(0);
        Checks.deeds(x, 1);
        x.keep(1);
        Checks.deeds(x, 40);
        x.keep(2);
        Checks.due("on(0), no DEEDS", x.on(0), 0);
        Checks.griefs(x, "all in", 3, 0);
        Checks.due("undo(0)", x.undo(0), 0);
        Checks.due("on(2), 40 DEEDS", x.on(2), 40);
        Checks.refused(x, "tune(0), full as kept", () -> x.tune(0), PartyWill.FULL);
        Checks.due("undo(1)", x.undo(1), 39);
        Checks.griefs(x, "behind the first of 40", 0, 1);
        Checks.due("on(2), as kept still", x.on(2), 40);
        Checks.due("on(1)", x.on(1), 1);
        Checks.unchanging(x, "on(1) again", () -> x.on(1), 1);
        Checks.told(x, "guest(0, 2), OUT as kept", x.guest(0, 2), 1);
        Checks.due("undo(0)", x.undo(0), 1);
        Checks.told(x, "guest(0, 2), in", x.guest(0, 2), 0);
        Checks.due("kept still", x.count(9), 3);
        deedsAreAsTheyWereKept();
    }

    private static void deedsAreAsTheyWereKept() {
        PartyWill x = Checks.party("c94544 g2");
        x.tune(1);
        x.tune(1);
        x.keep(0);
        x.undo(0);
        x.ice(0);
        x.say(0);
        x.say(0);
        Checks.due("on(0), other DEEDS were done", x.on(0), 2);
        Checks.griefs(x, "behind two polkas", 4);
        Checks.due("undo(1)", x.undo(1), 1);
        Checks.griefs(x, "behind the first polka", 3);
        x.say(0);
        Checks.due("on(0) again, one DEED was undone", x.on(0), 2);
        Checks.due("undo(0)", x.undo(0), 2);
        Checks.griefs(x, "as it came", 2);
    }

    @Sentence(of = 20, says = "BAD; NOTHING.")
    static void promise20_badNothing() {
        PartyWill none = new PartyWill();
        Checks.finds(none, "on(0) without GUESTS", () -> none.on(0), Checks.NOTHING);
        PartyWill x = Checks.party("c34444 g3");
        x.tune(0);
        x.keep(1);
        Checks.refused(x, "on(-1)", () -> x.on(-1), PartyWill.BAD);
        Checks.refused(x, "on(3)", () -> x.on(3), PartyWill.BAD);
        Checks.refused(x, "on(most)", () -> x.on(MOST), PartyWill.BAD);
        Checks.refused(x, "on(least)", () -> x.on(LEAST), PartyWill.BAD);
        Checks.finds(x, "on(0), none kept there", () -> x.on(0), Checks.NOTHING);
        Checks.finds(x, "on(2), none kept there", () -> x.on(2), Checks.NOTHING);
        x.party(0);
        Checks.finds(x, "on(1), gone by another PARTY", () -> x.on(1), Checks.NOTHING);
    }
}
