/** Promises 8 to 14, sentence by sentence: texts, parties, guests. */
final class SentencesOfTexts {
    private static final int MOST = Checks.MOST, LEAST = Checks.LEAST;

    private SentencesOfTexts() {
    }

    @Sentence(of = 8, says = "A TEXT is there with n blanks: n.")
    static void promise08_textIsThereWithNBlanks() {
        PartyWill x = new PartyWill();
        Checks.due("text(0, 0)", x.text(0, 0), 0);
        Checks.due("count(8), an empty TEXT", x.count(8), 1);
        Checks.due("fault(0), an empty TEXT", x.fault(0), 0);
        Checks.due("text(3, 80)", x.text(3, 80), 80);
        Checks.due("fault(3), blanks alone", x.fault(3), 80);
        Checks.due("put(3, 79, 65)", x.put(3, 79, 65), 1032);
        Checks.due("text(3, 80) anew", x.text(3, 80), 80);
        for (int i = 0; i < 80; i++) {
            Checks.due("byte " + i, x.put(3, i, 66), 1032);
        }
        Checks.due("text(3, 1)", x.text(3, 1), 1);
        Checks.due("put(3, 1, 0)", x.put(3, 1, 0), PartyWill.FINDING);
        Checks.due("text(3, 2)", x.text(3, 2), 2);
        Checks.due("put(3, 1, 0)", x.put(3, 1, 0), 1032);
        Checks.due("count(8)", x.count(8), 2);
    }

    @Sentence(of = 8, says = "BAD: also n above 80; SIZE: below 0.")
    static void promise08_badAlsoNAbove80_sizeBelow0() {
        PartyWill x = new PartyWill();
        Checks.text(x, 0, "ab");
        Checks.refused(x, "text(0, 81)", () -> x.text(0, 81), PartyWill.BAD);
        Checks.refused(x, "text(0, most)", () -> x.text(0, MOST), PartyWill.BAD);
        Checks.refused(x, "text(1, 81)", () -> x.text(1, 81), PartyWill.BAD);
        Checks.refused(x, "text(4, 1)", () -> x.text(4, 1), PartyWill.BAD);
        Checks.refused(x, "text(-1, 1)", () -> x.text(-1, 1), PartyWill.BAD);
        Checks.refused(x, "text(most, 1)", () -> x.text(MOST, 1), PartyWill.BAD);
        Checks.refused(x, "text(least, 1)", () -> x.text(LEAST, 1), PartyWill.BAD);
        Checks.refused(x, "text(4, -1)", () -> x.text(4, -1), PartyWill.BAD);
        Checks.finds(x, "text(0, -1)", () -> x.text(0, -1), Checks.SIZE);
        Checks.finds(x, "text(3, least)", () -> x.text(3, LEAST), Checks.SIZE);
        Checks.due("put(0, 1, 0)", x.put(0, 1, 0), 1000 + 'b');
    }

    @Sentence(of = 9, says = "Byte i of a TEXT is v, cut to a byte (-128 .. 127): what it was, and 1000 more.")
    static void promise09_byteIsVCutToAByte() {
        PartyWill x = new PartyWill();
        x.text(3, 80);
        int[] laid = {127, -128, 128, -129, 255, 256, -1, MOST, LEAST, 0, 32};
        int[] cut = {127, -128, -128, 127, -1, 0, -1, -1, 0, 0, 32};
        int was = 32;
        for (int k = 0; k < laid.length; k++) {
            Checks.due("put(3, 79, " + laid[k] + ")", x.put(3, 79, laid[k]), 1000 + was);
            was = cut[k];
        }
        Checks.due("put(3, 0, -128)", x.put(3, 0, -128), 1032);
        Checks.due("put(3, 0, 0)", x.put(3, 0, 0), 872);
        Checks.due("the byte beside", x.put(3, 1, 0), 1032);
        Checks.due("the byte beside", x.put(3, 78, 0), 1032);
    }

    @Sentence(of = 9, says = "BAD; NOTHING; BEYOND.")
    static void promise09_badNothingBeyond() {
        PartyWill x = new PartyWill();
        x.text(0, 3);
        x.text(1, 0);
        Checks.refused(x, "put(-1, 0, 1)", () -> x.put(-1, 0, 1), PartyWill.BAD);
        Checks.refused(x, "put(4, 9, 1)", () -> x.put(4, 9, 1), PartyWill.BAD);
        Checks.refused(x, "put(most, 0, 1)", () -> x.put(MOST, 0, 1), PartyWill.BAD);
        Checks.refused(x, "put(least, 0, 1)", () -> x.put(LEAST, 0, 1), PartyWill.BAD);
        Checks.finds(x, "put(3, 0, 1), missing", () -> x.put(3, 0, 1), Checks.NOTHING);
        Checks.finds(x, "put(3, -1, 1), missing", () -> x.put(3, -1, 1), Checks.NOTHING);
        Checks.finds(x, "put(0, -1, 1)", () -> x.put(0, -1, 1), Checks.BEYOND);
        Checks.finds(x, "put(0, 3, 1)", () -> x.put(0, 3, 1), Checks.BEYOND);
        Checks.finds(x, "put(0, most, 1)", () -> x.put(0, MOST, 1), Checks.BEYOND);
        Checks.finds(x, "put(0, least, 1)", () -> x.put(0, LEAST, 1), Checks.BEYOND);
        Checks.finds(x, "put(1, 0, 1), empty", () -> x.put(1, 0, 1), Checks.BEYOND);
        x.text(2, 80);
        Checks.finds(x, "put(2, 80, 1), full", () -> x.put(2, 80, 1), Checks.BEYOND);
    }

    @Sentence(of = 10, says = "A FAULT of a TEXT; NONE: there is none.")
    static void promise10_faultOfAText_noneThereIsNone() {
        PartyWill x = new PartyWill();
        x.text(0, 0);
        Checks.unchanging(x, "fault of no signs", () -> x.fault(0), 0);
        Checks.text(x, 0, "c54444 g0");
        Checks.unchanging(x, "fault of a sound TEXT", () -> x.fault(0), PartyWill.NONE);
        Checks.due("finding() behind NONE", x.finding(), 0);
        PartyWill y = new PartyWill();
        Checks.text(y, 3, Checks.longest());
        Checks.due("fault of 80 sound signs", y.fault(3), PartyWill.NONE);
        y.put(3, 79, 'x');
        Checks.due("fault, the end comes too early", y.fault(3), 80);
        y.put(3, 79, 'z');
        Checks.due("fault at the last sign", y.fault(3), 79);
        y.put(3, 0, 'C');
        Checks.due("fault at the first sign", y.fault(3), 0);
        Checks.due("count(0)", y.count(0), 0);
    }

    @Sentence(of = 10, says = "BAD; NOTHING.")
    static void promise10_badNothing() {
        PartyWill x = new PartyWill();
        x.text(0, 1);
        Checks.refused(x, "fault(-1)", () -> x.fault(-1), PartyWill.BAD);
        Checks.refused(x, "fault(4)", () -> x.fault(4), PartyWill.BAD);
        Checks.refused(x, "fault(most)", () -> x.fault(MOST), PartyWill.BAD);
        Checks.refused(x, "fault(least)", () -> x.fault(LEAST), PartyWill.BAD);
        Checks.finds(x, "fault(3), missing", () -> x.fault(3), Checks.NOTHING);
    }

    @Sentence(of = 11, says = "A PARTY by a TEXT (anew: all in, no DEEDS; kept PARTIES go): how many GUESTS.")
    static void promise11_partyAnew_allIn_noDeeds_keptPartiesGo() {
        PartyWill x = Checks.party("c17654 g9d9s9m9u9g9 x01x12x23x34x45x50");
        Checks.due("count(0), 6 GUESTS", x.count(0), 6);
        Checks.due("all OUT", x.tune(3), 63);
        Checks.deeds(x, 40);
        for (int k = 0; k < 3; k++) {
            x.keep(k);
        }
        x.does(0, -4);
        Checks.due("party(0) again", x.party(0), 6);
        Checks.due("all in", x.count(3), 6);
        Checks.due("no DEEDS", x.count(2), 0);
        Checks.due("none to undo", x.undo(0), 0);
        Checks.due("no kept PARTIES", x.count(9), 0);
        for (int k = 0; k < 3; k++) {
            Checks.due("on(" + k + ")", x.on(k), PartyWill.FINDING);
        }
        Checks.griefs(x, "anew", 9, 9, 9, 9, 9, 9);
        Checks.due("what silence does, by the TEXT", x.does(0, 3), 3);
        Checks.text(x, 3, "c29876 s4");
        Checks.due("party(3), 1 GUEST", x.party(3), 1);
        Checks.due("count(0)", x.count(0), 1);
        Checks.due("count(1)", x.count(1), 2);
        Checks.due("all in", x.count(3), 1);
        Checks.told(x, "guest(0, 0)", x.guest(0, 0), 2);
        Checks.told(x, "guest(0, 3)", x.guest(0, 3), 0);
        Checks.told(x, "guest(0, 4)", x.guest(0, 4), 0);
        Checks.due("guest(1, 0)", x.guest(1, 0), PartyWill.BAD);
        Checks.due("asked() stays by party()", x.asked(), 0);
        PartyWill seen = Checks.party("c14444 g9g9 x10x01");
        seen.party(0);
        Checks.text(seen, 1, "c14444 g9g9");
        Checks.due("party(1), without SIGHTS", seen.party(1), 2);
        Checks.told(seen, "guest(0, 3)", seen.guest(0, 3), 0);
        Checks.told(seen, "guest(0, 4)", seen.guest(0, 4), 0);
        Checks.due("nobody sees them", seen.tune(0), 0);
    }

    @Sentence(of = 11, says = "BAD; NOTHING; STATE: a FAULT.")
    static void promise11_badNothingStateAFault() {
        PartyWill x = Checks.party("c39876 g3g1 x10");
        x.tune(3);
        x.keep(0);
        Checks.text(x, 1, "c19999 d9d9 x01x01");
        x.text(2, 0);
        Checks.refused(x, "party(-1)", () -> x.party(-1), PartyWill.BAD);
        Checks.refused(x, "party(4)", () -> x.party(4), PartyWill.BAD);
        Checks.refused(x, "party(most)", () -> x.party(MOST), PartyWill.BAD);
        Checks.refused(x, "party(least)", () -> x.party(LEAST), PartyWill.BAD);
        Checks.finds(x, "party(3), missing", () -> x.party(3), Checks.NOTHING);
        Checks.refused(x, "party(1), a FAULT behind 2 GUESTS", () -> x.party(1), PartyWill.STATE);
        Checks.refused(x, "party(2), an empty TEXT", () -> x.party(2), PartyWill.STATE);
        x.text(2, 80);
        Checks.refused(x, "party(2), blanks alone", () -> x.party(2), PartyWill.STATE);
        Checks.due("on(0), kept still", x.on(0), 1);
        Checks.due("undo(0)", x.undo(0), 1);
        Checks.griefs(x, "of the PARTY still", 3, 1);
    }

    @Sentence(of = 11, says = "(STATE behind NOTHING.)")
    static void promise11_stateBehindNothing() {
        PartyWill x = new PartyWill();
        Checks.finds(x, "a missing TEXT is no FAULT", () -> x.party(0), Checks.NOTHING);
        x.text(0, 0);
        Checks.refused(x, "an empty TEXT is not missing", () -> x.party(0), PartyWill.STATE);
        Checks.finds(x, "another missing TEXT", () -> x.party(1), Checks.NOTHING);
    }

    @Sentence(of = 12, says = "Of a GUEST: 0 the KIND, 1 the GRIEF, 2 whether it is OUT (1, 0), 3 whom it sees "
        + "(bits), 4 whether somebody who is in sees it (1, 0), told by asked(): 1.")
    static void promise12_kindGriefOutSightSeen() {
        PartyWill x = Checks.party("c94444 g0d9s1m2u3y4 x50x51x52x53x54x05x10");
        int[][] want = {
            {0, 0, 0, 32, 1}, {1, 9, 0, 1, 1}, {2, 1, 0, 0, 1}, {3, 2, 0, 0, 1}, {4, 3, 0, 0, 1}, {5, 4, 0, 31, 1},
        };
        for (int i = 0; i < 6; i++) {
            for (int what = 0; what < 5; what++) {
                Checks.told(x, "guest(" + i + ", " + what + ")", x.guest(i, what), want[i][what]);
            }
        }
        PartyWill y = Checks.party("c24444 g3g2g2 x10x02x20");
        Checks.told(y, "guest(2, 4), seen by one who is in", y.guest(2, 4), 1);
        Checks.due("tune(0)", y.tune(0), 1);
        Checks.told(y, "guest(2, 4), its seer is OUT", y.guest(2, 4), 0);
        Checks.told(y, "guest(0, 0), OUT", y.guest(0, 0), 0);
        Checks.told(y, "guest(0, 1), OUT", y.guest(0, 1), 0);
        Checks.told(y, "guest(0, 2), OUT", y.guest(0, 2), 1);
        Checks.told(y, "guest(0, 3), OUT", y.guest(0, 3), 4);
        Checks.told(y, "guest(0, 4), OUT, seen by those who are in", y.guest(0, 4), 1);
        Checks.told(y, "guest(1, 4), seen by nobody", y.guest(1, 4), 0);
    }

    @Sentence(of = 12, says = "BAD.")
    static void promise12_bad() {
        PartyWill none = new PartyWill();
        Checks.refused(none, "guest(0, 0) without GUESTS", () -> none.guest(0, 0), PartyWill.BAD);
        PartyWill x = Checks.party("c94444 g1g2");
        x.guest(1, 1);
        Checks.refused(x, "guest(-1, 0)", () -> x.guest(-1, 0), PartyWill.BAD);
        Checks.refused(x, "guest(2, 0)", () -> x.guest(2, 0), PartyWill.BAD);
        Checks.refused(x, "guest(6, 0)", () -> x.guest(6, 0), PartyWill.BAD);
        Checks.refused(x, "guest(most, 0)", () -> x.guest(MOST, 0), PartyWill.BAD);
        Checks.refused(x, "guest(least, 0)", () -> x.guest(LEAST, 0), PartyWill.BAD);
        Checks.refused(x, "guest(0, -1)", () -> x.guest(0, -1), PartyWill.BAD);
        Checks.refused(x, "guest(0, 5)", () -> x.guest(0, 5), PartyWill.BAD);
        Checks.refused(x, "guest(0, most)", () -> x.guest(0, MOST), PartyWill.BAD);
        Checks.refused(x, "guest(0, least)", () -> x.guest(0, LEAST), PartyWill.BAD);
        Checks.due("asked()", x.asked(), 2);
    }

    @Sentence(of = 13, says = "What a GUEST that IS of a KIND tells: a DANCER (UNCLE, too) how many TUNES make its "
        + "GRIEF less now, a STONY one (SPY, too) the most by which a TUNE makes its GRIEF more now (0 at least), a "
        + "MOURNER how often her name can be SAID to it, and its GRIEF is not above the CLAUSE (0 .. 9), an UNCLE how "
        + "many others have more GRIEF, a SPY how many it sees whose GRIEF is above the CLAUSE less 3.")
    static void promise13_whatEachKindTells() {
        dancersAndUnclesByTunes();
        stonyOnesAndSpiesByTunes();
        mournersByNames();
        unclesByOthers();
        spiesByTheSeen();
    }

    private static void marksAre(String signs, int kind, int... want) {
        PartyWill x = Checks.party(signs);
        for (int i = 0; i < want.length; i++) {
            Checks.due("mark(" + i + ", " + kind + ") by " + signs, x.mark(i, kind), want[i]);
        }
    }

    private static void dancersAndUnclesByTunes() {
        marksAre("c90000 d0d1d9u0u1u9", 1, 0, 4, 4, 0, 4, 4);
        marksAre("c99999 d0d1d9u0u1u9", 1, 0, 0, 0, 0, 1, 1);
        marksAre("c94444 d0d1d9u0u1u9", 1, 0, 2, 2, 0, 2, 2);
        marksAre("c94555 d0d1d9u0u1u9", 1, 0, 0, 0, 0, 1, 1);
        PartyWill x = Checks.party("c99449 d9u9");
        for (int k = 0; k < 3; k++) {
            x.tune(0);
        }
        Checks.due("a DANCER at 20", x.mark(0, 1), 2);
        x.does(1, 1);
        Checks.due("a DANCER at 20, a polka by 1", x.mark(0, 1), 1);
        Checks.due("an UNCLE at 20, a polka by 1", x.mark(1, 1), 2);
    }

    private static void stonyOnesAndSpiesByTunes() {
        marksAre("c90000 s0s9y0y9", 2, 0, 0, 0, 0);
        marksAre("c94444 s0s9y0y9", 2, 0, 0, 0, 0);
        marksAre("c95000 s0s9y0y9", 2, 1, 1, 1, 1);
        marksAre("c90500 s0s9y0y9", 2, 1, 1, 1, 1);
        marksAre("c90050 s0s9y0y9", 2, 1, 1, 1, 1);
        marksAre("c90005 s0s9y0y9", 2, 1, 1, 1, 1);
        marksAre("c99999 s0s9y0y9", 2, 1, 1, 1, 1);
        PartyWill x = Checks.party("c99999 s9y9");
        for (int k = 0; k < 10; k++) {
            x.tune(0);
        }
        Checks.due("a STONY one at 19", x.mark(0, 2), 1);
        x.tune(0);
        Checks.due("a STONY one at 20", x.mark(0, 2), 0);
        Checks.due("a SPY at 20", x.mark(1, 2), 0);
    }

    private static void mournersByNames() {
        marksAre("c94444 m0m1m2m5m6m9", 3, 2, 2, 1, 1, 0, 0);
        marksAre("c44444 m0m1m4m5m9", 3, 1, 0, 0, 0, 0);
        marksAre("c14444 m0m1m9", 3, 0, 0, 0);
    }

    private static void unclesByOthers() {
        marksAre("c94444 u5g4g5g6d9u9", 4, 3);
        marksAre("c94444 u9g9g9g9g9g9", 4, 0);
        marksAre("c94444 u0g1d1s1m1y1", 4, 5);
        marksAre("c94444 u0", 4, 0);
        marksAre("c94444 u1u0u2", 4, 1, 2, 0);
    }

    private static void spiesByTheSeen() {
        int spy = 0;
        Checks.due("the last one sees the first", Checks.party("c94444 g9g0y0 x20").mark(2, 5), 1);
        String[] parties = {"c94444 y0g6g7g9 x01x02", "c94444 y9g9", "c34444 y9g0g1 x01x02", "c14444 y0g0 x01",
            "c94444 y0g9d9s9m9u9 x01x02x03x04x05", "c94444 y9g9 x10"};
        int[] want = {1, 0, 1, 1, 5, 0};
        for (int k = 0; k < parties.length; k++) {
            Checks.due("mark of the SPY by " + parties[k], Checks.party(parties[k]).mark(spy, 5), want[k]);
        }
    }

    @Sentence(of = 13, says = "(OUT: 0.)")
    static void promise13_out0() {
        PartyWill x = Checks.party("c90009 d9s9m0u9g9 x40x41x42x43");
        Checks.due("tune(3)", x.tune(3), 15);
        Checks.due("a DANCER that is OUT", x.mark(0, 1), 0);
        Checks.due("a STONY one that is OUT", x.mark(1, 2), 0);
        Checks.due("a MOURNER that is OUT", x.mark(2, 3), 0);
        Checks.due("an UNCLE that is OUT", x.mark(3, 4), 0);
        Checks.due("an UNCLE that is OUT, as a DANCER", x.mark(3, 1), 0);
        Checks.finds(x, "an UNCLE that is OUT, as a SPY", () -> x.mark(3, 5), Checks.UNLIKE);
    }

    @Sentence(of = 13, says = "BAD: also KIND 0; UNLIKE.")
    static void promise13_badAlsoKind0_unlike() {
        PartyWill none = new PartyWill();
        Checks.refused(none, "mark(0, 1) without GUESTS", () -> none.mark(0, 1), PartyWill.BAD);
        PartyWill x = Checks.party("c94444 g1d1u1");
        Checks.refused(x, "mark(0, 0)", () -> x.mark(0, 0), PartyWill.BAD);
        Checks.refused(x, "mark(1, 0)", () -> x.mark(1, 0), PartyWill.BAD);
        Checks.refused(x, "mark(1, 6)", () -> x.mark(1, 6), PartyWill.BAD);
        Checks.refused(x, "mark(1, -1)", () -> x.mark(1, -1), PartyWill.BAD);
        Checks.refused(x, "mark(1, most)", () -> x.mark(1, MOST), PartyWill.BAD);
        Checks.refused(x, "mark(1, least)", () -> x.mark(1, LEAST), PartyWill.BAD);
        Checks.refused(x, "mark(3, 1)", () -> x.mark(3, 1), PartyWill.BAD);
        Checks.refused(x, "mark(-1, 1)", () -> x.mark(-1, 1), PartyWill.BAD);
        Checks.finds(x, "a GUEST as a DANCER", () -> x.mark(0, 1), Checks.UNLIKE);
        Checks.finds(x, "a DANCER as an UNCLE", () -> x.mark(1, 4), Checks.UNLIKE);
        Checks.finds(x, "an UNCLE as a SPY", () -> x.mark(2, 5), Checks.UNLIKE);
        PartyWill y = Checks.party("c94444 s1y1m1");
        Checks.finds(y, "a STONY one as a SPY", () -> y.mark(0, 5), Checks.UNLIKE);
        Checks.finds(y, "a STONY one as a MOURNER", () -> y.mark(0, 3), Checks.UNLIKE);
        Checks.finds(y, "a SPY as an UNCLE", () -> y.mark(1, 4), Checks.UNLIKE);
        Checks.finds(y, "a MOURNER as a STONY one", () -> y.mark(2, 2), Checks.UNLIKE);
        Checks.due("a SPY as a STONY one", y.mark(1, 2), 0);
    }

    @Sentence(of = 14, says = "What a TUNE does is v (-4 .. 5): what it did.")
    static void promise14_whatATuneDoesIsV() {
        PartyWill x = Checks.party("c94059 g4");
        Checks.due("does(0, -4)", x.does(0, -4), 0);
        Checks.due("does(0, 5)", x.does(0, 5), -4);
        Checks.due("does(0, 5) again", x.does(0, 5), 5);
        Checks.due("does(1, 0)", x.does(1, 0), -4);
        Checks.due("does(2, 0)", x.does(2, 0), 1);
        Checks.due("does(3, -4)", x.does(3, -4), 5);
        Checks.due("no DEED", x.count(2), 0);
        x.tune(0);
        Checks.griefs(x, "behind silence by 5", 9);
        x.tune(3);
        Checks.griefs(x, "behind an air by -4", 5);
    }

    @Sentence(of = 14, says = "BAD; STATE: no GUESTS.")
    static void promise14_bad_stateNoGuests() {
        PartyWill none = new PartyWill();
        Checks.refused(none, "does(0, 0) without GUESTS", () -> none.does(0, 0), PartyWill.STATE);
        Checks.refused(none, "does(3, 5) without GUESTS", () -> none.does(3, 5), PartyWill.STATE);
        Checks.refused(none, "BAD ahead of STATE, the TUNE", () -> none.does(4, 0), PartyWill.BAD);
        Checks.refused(none, "BAD ahead of STATE, v", () -> none.does(0, 6), PartyWill.BAD);
        PartyWill x = Checks.party("c94444 g4");
        Checks.refused(x, "does(-1, 0)", () -> x.does(-1, 0), PartyWill.BAD);
        Checks.refused(x, "does(4, 0)", () -> x.does(4, 0), PartyWill.BAD);
        Checks.refused(x, "does(most, 0)", () -> x.does(MOST, 0), PartyWill.BAD);
        Checks.refused(x, "does(least, 0)", () -> x.does(LEAST, 0), PartyWill.BAD);
        Checks.refused(x, "does(0, 6)", () -> x.does(0, 6), PartyWill.BAD);
        Checks.refused(x, "does(0, -5)", () -> x.does(0, -5), PartyWill.BAD);
        Checks.refused(x, "does(0, most)", () -> x.does(0, MOST), PartyWill.BAD);
        Checks.refused(x, "does(0, least)", () -> x.does(0, LEAST), PartyWill.BAD);
    }
}
