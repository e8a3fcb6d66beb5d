/** The terms, sentence by sentence: what the words of the promises mean, and how far they reach. */
final class SentencesOfTerms {
    private static final int TERMS = Sentence.TERMS;

    private SentencesOfTerms() {
    }

    @Sentence(of = TERMS, says = "An object is used for at most 512 calls after it has been made")
    static void terms_512calls() {
        PartyWill x = new PartyWill();
        for (int k = 0; k < 255; k++) {
            x.row(5, 40);
            x.tear(5);
        }
        Checks.due("the 511th call", x.row(5, 40), 40);
        Checks.due("the 512th call", x.count(7), 1);
    }

    @Sentence(of = TERMS, says = "Refused is, the first of these that fits, in this order: BAD -1 (a number that is "
        + "none, or not as told), FULL -2, STATE -4 (not now), SPENT -6 (more than told), FINDING -3 (finding() tells "
        + "which), unless a call says so otherwise.")
    static void terms_refusedInThisOrder() {
        PartyWill none = new PartyWill();
        Checks.due("BAD", PartyWill.BAD, -1);
        Checks.due("FULL", PartyWill.FULL, -2);
        Checks.due("FINDING", PartyWill.FINDING, -3);
        Checks.due("STATE", PartyWill.STATE, -4);
        Checks.due("SPENT", PartyWill.SPENT, -6);
        Checks.refused(none, "row: BAD ahead of FINDING", () -> none.row(6, -1), -1);
        Checks.refused(none, "text: BAD ahead of FINDING", () -> none.text(4, -1), -1);
        Checks.refused(none, "lay: BAD ahead of FINDING", () -> none.lay(6, -1, 0), -1);
        Checks.refused(none, "stay: BAD ahead of STATE", () -> none.stay(7), -1);
        Checks.refused(none, "ices: STATE ahead of FINDING", () -> none.ices(0), -4);
        PartyWill x = Checks.party("c34444 g4y1 x10");
        Checks.deeds(x, 40);
        Checks.refused(x, "tune: BAD ahead of FULL", () -> x.tune(4), -1);
        Checks.refused(x, "tune: FULL", () -> x.tune(3), -2);
        Checks.refused(x, "say: STATE ahead of FULL, as it says", () -> x.say(0), -4);
        Checks.finds(x, "party: NOTHING ahead of STATE, as it says", () -> x.party(3), Checks.NOTHING);
    }

    @Sentence(of = TERMS, says = "NONE -9 (as an answer: a ROW that would come anew stays).")
    static void terms_noneIsAnAnswer_aRowStays() {
        Checks.due("NONE", PartyWill.NONE, -9);
        PartyWill x = Checks.party("c19999 g9g0 x10");
        Checks.row(x, 0, 7, 8, 9);
        Checks.refused(x, "first(1, 0)", () -> x.first(1, 0), PartyWill.NONE);
        Checks.refused(x, "first(1, 1)", () -> x.first(1, 1), PartyWill.NONE);
        Checks.refused(x, "gay()", x::gay, PartyWill.NONE);
        Checks.refused(x, "fault(0)", () -> x.fault(0), PartyWill.NONE);
        Checks.rowIs(x, 0, 7, 8, 9);
    }

    @Sentence(of = TERMS, says = "What is refused changes nothing but finding(), findings().")
    static void terms_refusedChangesNothing() {
        PartyWill x = Checks.party("c39998 g3y0 x10");
        Checks.row(x, 0, 4, -9);
        x.row(1, 7);
        x.mid(1);
        x.guest(0, 1);
        x.keep(1);
        Checks.text(x, 1, "c1234");
        Checks.refused(x, "does(0, 6)", () -> x.does(0, 6), PartyWill.BAD);
        Checks.refused(x, "party(1)", () -> x.party(1), PartyWill.STATE);
        Checks.finds(x, "text(0, -1)", () -> x.text(0, -1), Checks.SIZE);
        Checks.finds(x, "row(0, -1)", () -> x.row(0, -1), Checks.SIZE);
        Checks.finds(x, "on(0)", () -> x.on(0), Checks.NOTHING);
        Checks.finds(x, "copy too many", () -> x.copy(0, 0, 1, 0, 3), Checks.BEYOND);
        Checks.finds(x, "falls(0)", () -> x.falls(0), Checks.UNLIKE);
        Checks.finds(x, "ices(1)", () -> x.ices(1), Checks.SIZE);
        Checks.refused(x, "fewest(7, 0)", () -> x.fewest(7, 0), PartyWill.BAD);
        Checks.refused(x, "lots(1, 0)", () -> x.lots(1, 0), PartyWill.BAD);
        x.tune(0);
        Checks.refused(x, "say(0), OUT", () -> x.say(0), PartyWill.STATE);
        Checks.deeds(x, 40);
        Checks.refused(x, "ice(1), full", () -> x.ice(1), PartyWill.FULL);
        Checks.refused(x, "lots(1, 1), full", () -> x.lots(1, 1), PartyWill.FULL);
    }

    @Sentence(of = TERMS, says = "FINDINGS: 1 NOTHING (a ROW, a TEXT, a kept PARTY that is missing), 2 BEYOND (a "
        + "place of a ROW, a TEXT that there is not), 3 UNLIKE (a GUEST of another KIND; a number that is none), 4 "
        + "NOUGHT (shared among none), 5 SIZE (fewer than none; too many, not as many as due).")
    static void terms_findings() {
        PartyWill x = Checks.party("c94444 g0");
        Checks.finds(x, "a missing ROW", () -> x.tear(0), 1);
        Checks.finds(x, "a missing TEXT", () -> x.fault(1), 1);
        Checks.finds(x, "a missing kept PARTY", () -> x.on(0), 1);
        x.row(0, 1);
        Checks.finds(x, "a place of a ROW", () -> x.at(0, 1), 2);
        Checks.finds(x, "a place of a TEXT", () -> x.put(0, 9, 0), 2);
        Checks.finds(x, "a GUEST of another KIND", () -> x.mark(0, 1), 3);
        x.lay(0, 0, 4);
        Checks.finds(x, "a number that is no TUNE", () -> x.falls(0), 3);
        Checks.finds(x, "an evening not by pairs", () -> x.kinds(0, 0), 5);
        x.row(0, 0);
        Checks.finds(x, "the mean of none", () -> x.mean(0), 4);
        Checks.finds(x, "fewer than none", () -> x.row(0, -1), 5);
        x.row(0, 7);
        Checks.finds(x, "too many TUNES", () -> x.falls(0), 5);
    }

    @Sentence(of = TERMS, says = "Chances, parts are told by upper(), lower(), in lowest terms, the lower number "
        + "above 0 (0 by 1).")
    static void terms_lowestTerms_0By1() {
        PartyWill x = Checks.party("c34455 g3g0 x10");
        Checks.share(x, "odds(0)", x.odds(0), 1, 1);
        Checks.share(x, "odds(1), 2 of 4", x.odds(1), 1, 2);
        Checks.share(x, "odds(2), 4 of 16", x.odds(2), 1, 4);
        Checks.share(x, "mid(2), 12 of 16", x.mid(2), 3, 4);
        Checks.share(x, "mid(0), 0 of 1", x.mid(0), 0, 1);
        PartyWill sad = Checks.party("c39999 g9g9g9 x10x21x02");
        Checks.share(sad, "odds(6), 0 of 4096", sad.odds(6), 0, 1);
        Checks.share(sad, "mid(6), 3 * 4096 of 4096", sad.mid(6), 3, 1);
    }

    @Sentence(of = TERMS, says = "Sets (of GUESTS, of TUNES, of KINDS) are told by bits.")
    static void terms_setsAreToldByBits() {
        PartyWill x = Checks.party("c34445 g3g3g3g3g3g3 x05");
        Checks.due("tune(3), the last GUEST", x.tune(3), 1 << 5);
        Checks.due("safe(), all TUNES", x.safe(), 15);
        x.row(0, 0);
        Checks.due("kinds(0, 0), all KINDS", x.kinds(0, 0), 63);
    }

    @Sentence(of = TERMS, says = "ROWS 0 .. 5 are rows of 0 to 40 ints, TEXTS 0 .. 3 rows of 0 to 80 bytes, or "
        + "missing (at first).")
    static void terms_rows0To5_texts0To3() {
        PartyWill x = new PartyWill();
        int[] rows = {-1, 0, 5, 6};
        for (int r : rows) {
            boolean is = r >= 0 && r <= 5;
            Checks.due("at first, tear(" + r + ")", x.tear(r), is ? PartyWill.FINDING : PartyWill.BAD);
            Checks.due("row(" + r + ", 0)", x.row(r, 0), is ? 0 : PartyWill.BAD);
            Checks.due("row(" + r + ", 40)", x.row(r, 40), is ? 40 : PartyWill.BAD);
            Checks.due("row(" + r + ", 41)", x.row(r, 41), PartyWill.BAD);
            Checks.due("row(" + r + ", -1)", x.row(r, -1), is ? PartyWill.FINDING : PartyWill.BAD);
        }
        int[] texts = {-1, 0, 3, 4};
        for (int t : texts) {
            boolean is = t >= 0 && t <= 3;
            Checks.due("at first, fault(" + t + ")", x.fault(t), is ? PartyWill.FINDING : PartyWill.BAD);
            Checks.due("text(" + t + ", 0)", x.text(t, 0), is ? 0 : PartyWill.BAD);
            Checks.due("text(" + t + ", 80)", x.text(t, 80), is ? 80 : PartyWill.BAD);
            Checks.due("text(" + t + ", 81)", x.text(t, 81), PartyWill.BAD);
            Checks.due("text(" + t + ", -1)", x.text(t, -1), is ? PartyWill.FINDING : PartyWill.BAD);
        }
    }

    @Sentence(of = TERMS, says = "TUNES are 0 to 3: 0 silence, 1 a polka, 2 a waltz, 3 an air.")
    static void terms_tunesAre0To3() {
        PartyWill x = Checks.party("c95555 g0d0u0");
        x.row(0, 1);
        int[] none = {-1, 4, Checks.MOST, Checks.LEAST};
        for (int t : none) {
            Checks.refused(x, "tune(" + t + ")", () -> x.tune(t), PartyWill.BAD);
            Checks.refused(x, "out(" + t + ")", () -> x.out(t), PartyWill.BAD);
            Checks.refused(x, "does(" + t + ", 0)", () -> x.does(t, 0), PartyWill.BAD);
            Checks.refused(x, "did(0, " + t + ", 0, 0)", () -> x.did(0, t, 0, 0), PartyWill.BAD);
            x.lay(0, 0, t);
            Checks.finds(x, "falls by " + t, () -> x.falls(0), Checks.UNLIKE);
        }
        int[][] behind = {{1, 1, 1}, {2, 1, 0}, {3, 1, 0}, {4, 2, 1}};
        for (int t = 0; t <= 3; t++) {
            Checks.due("tune(" + t + ")", x.tune(t), 0);
            Checks.griefs(x, "behind tune " + t, behind[t]);
        }
    }

    private static void faultIs(String signs, int want) {
        PartyWill x = new PartyWill();
        Checks.text(x, 0, signs);
        Checks.due("fault of '" + signs + "'", x.fault(0), want);
    }

    @Sentence(of = TERMS, says = "A PARTY (without GUESTS at first) is a TEXT: blanks (32) ahead, between, behind as "
        + "many as wanted, none within items (an item: a letter and all its figures).")
    static void terms_blanksAheadBetweenBehind_noneWithinItems() {
        Checks.due("GUESTS at first", new PartyWill().count(0), 0);
        faultIs("c54444g1g2x01", PartyWill.NONE);
        faultIs("  c54444   g1    g2     x01      ", PartyWill.NONE);
        faultIs("c 54444g1", 1);
        faultIs("c5 4444g1", 2);
        faultIs("c54 444g1", 3);
        faultIs("c5444 4g1", 5);
        faultIs("c54444g 1", 7);
        faultIs("c54444g1g2x 01", 11);
        faultIs("c54444g1g2x0 1", 12);
        faultIs("c54444\tg1", 6);
        faultIs("c54444\u0000g1", 6);
        faultIs("c54444\u00a0g1", 6);
        faultIs("\nc54444g1", 0);
    }

    @Sentence(of = TERMS, says = "First c (99), the CLAUSE (1 .. 9), and what each TUNE 0 to 3 does, 4 more (0 .. 9 "
        + "each: so -4 .. 5; one figure each).")
    static void terms_clause1To9_tunesMinus4To5() {
        faultIs("c10000g1", PartyWill.NONE);
        faultIs("c99999g1", PartyWill.NONE);
        faultIs("c00000g1", 1);
        faultIs("c:0000g1", 1);
        faultIs("c/0000g1", 1);
        faultIs("c5/444g1", 2);
        faultIs("c5:444g1", 2);
        faultIs("c5444/g1", 5);
        faultIs("c5444:g1", 5);
        faultIs("c-4444g1", 1);
        faultIs("c544441g1", 6);
        faultIs("C54444g1", 0);
        faultIs("b54444g1", 0);
        faultIs("g1c54444", 0);
        faultIs("c54444c54444g1", 6);
        PartyWill x = Checks.party("c90945g1");
        Checks.due("the CLAUSE", x.count(1), 9);
        Checks.due("silence, 0 less 4", x.does(0, 0), -4);
        Checks.due("a polka, 9 less 4", x.does(1, 0), 5);
        Checks.due("a waltz, 4 less 4", x.does(2, 0), 0);
        Checks.due("an air, 5 less 4", x.does(3, 0), 1);
    }

    @Sentence(of = TERMS, says = "Then GUESTS (1 to 6; 0, 1, .. as they come): a letter, the GRIEF (0 .. 9, one "
        + "figure); then SIGHTS, any of them: x (120), two GUESTS (one figure each, unlike): the first one sees the "
        + "second one (told once at most).")
    static void terms_guests1To6_sightsAnyOfThem() {
        PartyWill x = Checks.party("c54444g0y9x01x10");
        Checks.told(x, "guest(0, 1)", x.guest(0, 1), 0);
        Checks.told(x, "guest(1, 1)", x.guest(1, 1), 9);
        Checks.told(x, "guest(0, 3)", x.guest(0, 3), 2);
        Checks.told(x, "guest(1, 3)", x.guest(1, 3), 1);
        Checks.due("1 GUEST", Checks.party("c54444g0").count(0), 1);
        PartyWill six = Checks.party("c54444 g0g1g2g3g4g5 x50 x05");
        Checks.due("6 GUESTS", six.count(0), 6);
        Checks.griefs(six, "as they come", 0, 1, 2, 3, 4, 5);
        Checks.told(six, "guest(5, 3)", six.guest(5, 3), 1);
        Checks.told(six, "guest(0, 3)", six.guest(0, 3), 32);
        PartyWill many = Checks.party(Checks.longest());
        Checks.told(many, "guest(3, 3)", many.guest(3, 3), 63 - 8);
        Checks.told(many, "guest(4, 3)", many.guest(4, 3), 0);
        faultIs("c54444g:", 7);
        faultIs("c54444g/", 7);
        faultIs("c54444g10", 8);
    }

    @Sentence(of = TERMS, says = "A FAULT is the first place at which it can't go on so (a letter, a figure that is "
        + "none such, a GUEST that there is not, the same twice, a SIGHT told already, a seventh GUEST, a GUEST "
        + "behind a SIGHT, a SIGHT ahead of all GUESTS: its place; the TEXT's size, if its end comes too early, or "
        + "there are blanks alone).")
    static void terms_faultIsTheFirstPlace() {
        faultIs("c54444z1", 6);
        faultIs("c54444gg", 7);
        faultIs("c54444g1x1", 9);
        faultIs("c54444g1g1x02", 12);
        faultIs("c54444g1g1x20", 11);
        faultIs("c54444g1g1x/0", 11);
        faultIs("c54444g1g1x:0", 11);
        faultIs("c54444g1g1x0/", 12);
        faultIs("c54444g1g1x0:", 12);
        faultIs("c54444g1g1x00", 12);
        faultIs("c54444g1g1x11", 12);
        faultIs("c54444g1g1x01x01", 15);
        faultIs("c54444g1g1x01x10x01", 18);
        faultIs("c54444g1g1g1g1g1g1g1", 18);
        faultIs("c54444g1g1g1g1g1g1 x01 g1", 23);
        faultIs("c54444g1g1x01g1", 13);
        faultIs("c54444x01", 6);
        faultIs("c54444  x01g1", 8);
        faultIs("c54444g1z9z9", 8);
        String sound = "c54444 g1g1 x01";
        int[] whole = {9, 11, 12, 15};
        for (int size = 0; size <= sound.length(); size++) {
            boolean isWhole = false;
            for (int n : whole) {
                isWhole |= n == size;
            }
            faultIs(sound.substring(0, size), isWhole ? PartyWill.NONE : size);
        }
        faultIs(" ", 1);
        faultIs(" ".repeat(80), 80);
    }

    @Sentence(of = TERMS, says = "KINDS of GUESTS and letters: 0 GUEST (g, 103), 1 DANCER (d, 100; a GUEST), 2 STONY "
        + "(s, 115; a GUEST), 3 MOURNER (m, 109; a GUEST), 4 UNCLE (u, 117; a DANCER), 5 SPY (y, 121; a STONY one).")
    static void terms_kindsAndLetters() {
        String letters = "gdsmuy";
        for (int sign = 0; sign < 256; sign++) {
            PartyWill x = new PartyWill();
            Checks.text(x, 0, "c54444g1" + (char) sign + "1");
            int kind = letters.indexOf(sign);
            if (kind >= 0) {
                x.party(0);
                Checks.told(x, "the KIND by letter " + sign, x.guest(1, 0), kind);
            } else if (sign != 'x') {
                Checks.due("fault by letter " + sign, x.fault(0), sign == ' ' ? 9 : 8);
            }
        }
    }

    @Sentence(of = TERMS, says = "GRIEF is 0 to 20 (what would be less, more, is 0, 20).")
    static void terms_griefIs0To20() {
        PartyWill x = Checks.party("c99440 g9d9s9m9u9y9");
        x.tune(0);
        Checks.griefs(x, "by 5", 14, 14, 10, 19, 14, 10);
        x.tune(0);
        Checks.griefs(x, "by 5 again", 19, 19, 11, 20, 19, 11);
        x.tune(0);
        Checks.griefs(x, "20 at most", 20, 20, 12, 20, 20, 12);
        x.say(3);
        Checks.griefs(x, "by her name", 20, 20, 12, 20, 20, 12);
        for (int k = 0; k < 5; k++) {
            x.tune(3);
        }
        Checks.griefs(x, "by -4 5 times", 0, 0, 0, 0, 0, 0);
        Checks.due("an ICE at 0", x.ice(0), 0);
        x.does(0, 1);
        x.tune(0);
        Checks.griefs(x, "from 0 on", 1, 1, 1, 2, 1, 1);
        Checks.due("an ICE at 1", x.ice(0), 0);
    }

    private static void tuneGives(int tune, int effect, int... griefs) {
        PartyWill x = Checks.party("c94444 g5d5s5m5u5y5");
        x.does(tune, effect);
        x.tune(tune);
        Checks.griefs(x, "behind tune " + tune + " by " + effect, griefs);
    }

    @Sentence(of = TERMS, says = "By a TUNE it is more by what that does; of a DANCER (UNCLE, too) 1 less by TUNES 1, "
        + "2; of a STONY one (SPY, too) 1 more at most; of a MOURNER, if it rises, twice that; of an UNCLE 0 then by "
        + "TUNE 1.")
    static void terms_griefByTunes() {
        tuneGives(0, 5, 10, 10, 6, 15, 10, 6);
        tuneGives(1, 5, 10, 9, 6, 15, 0, 6);
        tuneGives(2, 5, 10, 9, 6, 15, 9, 6);
        tuneGives(3, 5, 10, 10, 6, 15, 10, 6);
        tuneGives(0, 1, 6, 6, 6, 7, 6, 6);
        tuneGives(0, 2, 7, 7, 6, 9, 7, 6);
        tuneGives(0, 0, 5, 5, 5, 5, 5, 5);
        tuneGives(1, 0, 5, 4, 5, 5, 0, 5);
        tuneGives(2, 0, 5, 4, 5, 5, 4, 5);
        tuneGives(0, -1, 4, 4, 4, 4, 4, 4);
        tuneGives(1, -4, 1, 0, 1, 1, 0, 1);
        tuneGives(2, -4, 1, 0, 1, 1, 0, 1);
        tuneGives(3, -4, 1, 1, 1, 1, 1, 1);
        PartyWill x = Checks.party("c95444 m9u9");
        x.tune(1);
        Checks.griefs(x, "a polka of 0", 9, 0);
    }

    @Sentence(of = TERMS, says = "By her name, SAID to one, it is 2 more (of a STONY one 1, of a MOURNER 4); by an "
        + "ICE 3 less.")
    static void terms_griefByNamesAndIces() {
        PartyWill x = Checks.party("c94444 g4d4s4m4u4y4");
        int[] named = {6, 6, 5, 8, 6, 5};
        for (int i = 0; i < 6; i++) {
            Checks.due("say(" + i + ")", x.say(i), named[i]);
        }
        Checks.griefs(x, "behind names, one each", named);
        for (int i = 0; i < 6; i++) {
            Checks.due("ice(" + i + ")", x.ice(i), named[i] - 3);
        }
        for (int i = 0; i < 6; i++) {
            x.ice(i);
        }
        Checks.griefs(x, "0 at least", 0, 0, 0, 2, 0, 0);
    }

    @Sentence(of = TERMS, says = "Behind a TUNE, her name, an ICE, each that is in, whose GRIEF is above the CLAUSE, "
        + "and whom somebody sees who is in (as they were ahead of that), is OUT; a SPY never.")
    static void terms_whoIsOut() {
        Checks.due("at the CLAUSE", Checks.party("c34444 g3g0 x10").tune(0), 0);
        Checks.due("above it", Checks.party("c34444 g4g0 x10").tune(0), 1);
        Checks.due("seen by nobody", Checks.party("c34444 g4g0 x01").tune(0), 0);
        Checks.due("by one who is in ahead of that", Checks.party("c34444 g4g4 x10x01").tune(0), 3);
        Checks.due("in a ring", Checks.party("c34444 g4g4g4 x10x21x02").tune(0), 7);
        Checks.due("seen by a SPY", Checks.party("c34444 g4y9 x10").tune(0), 1);
        Checks.due("a SPY never", Checks.party("c14444 y9g0 x10").tune(0), 0);
        PartyWill x = Checks.party("c34444 g4g4g0 x10x21");
        Checks.due("one after the other not", x.tune(0), 3);
        PartyWill row = Checks.party("c34444 g4g3g0 x10x01x20");
        Checks.due("her name to another one", row.say(2), 2);
        Checks.told(row, "guest(0, 2)", row.guest(0, 2), 1);
        Checks.due("its only seer is OUT", row.say(1), 5);
        Checks.due("an ICE of another one", row.ice(2), 0);
        Checks.told(row, "guest(1, 2)", row.guest(1, 2), 0);
    }

    @Sentence(of = TERMS, says = "Who is OUT has no GRIEF more (0), nothing is done with it, for good.")
    static void terms_outHasNoGrief_forGood() {
        PartyWill x = Checks.party("c34449 g4g0y0 x10x20");
        x.tune(0);
        Checks.griefs(x, "behind silence", 0, 0, 0);
        x.tune(3);
        Checks.griefs(x, "behind an air", 0, 5, 1);
        Checks.refused(x, "say(0)", () -> x.say(0), PartyWill.STATE);
        Checks.refused(x, "ice(0)", () -> x.ice(0), PartyWill.STATE);
        x.does(0, -4);
        x.tune(0);
        Checks.told(x, "guest(0, 2)", x.guest(0, 2), 1);
        Checks.griefs(x, "behind silence by -4", 0, 1, 0);
    }

    @Sentence(of = TERMS, says = "What is done: a TUNE is played (to all that are in), her name SAID to one, an ICE "
        + "taken by one.")
    static void terms_whatIsDone_toAllOrToOne() {
        PartyWill x = Checks.party("c55444 g5g4g4 x10");
        Checks.due("silence, 1 more", x.tune(0), 1);
        Checks.griefs(x, "a TUNE to all that are in", 0, 5, 5);
        Checks.due("her name", x.say(2), 7);
        Checks.griefs(x, "her name to one", 0, 5, 7);
        Checks.due("an ICE", x.ice(1), 2);
        Checks.griefs(x, "an ICE by one", 0, 2, 7);
        Checks.due("DEEDS", x.count(2), 3);
        x.out(0);
        x.safe();
        x.stay(2);
        x.aunt(1);
        x.row(0, 1);
        x.ices(0);
        x.falls(0);
        Checks.due("aside nothing is done", x.count(2), 3);
        Checks.griefs(x, "aside", 0, 2, 7);
    }

    @Sentence(of = TERMS, says = "These are DEEDS 0, 1, .. (40 at most).")
    static void terms_deeds40AtMost() {
        PartyWill x = Checks.party("c94444 g0y0");
        for (int k = 0; k < 10; k++) {
            x.tune(0);
            x.say(0);
            x.ice(0);
            x.lots(1, 1 + k);
        }
        Checks.due("DEEDS", x.count(2), 40);
        Checks.refused(x, "tune(0)", () -> x.tune(0), PartyWill.FULL);
        Checks.refused(x, "say(0)", () -> x.say(0), PartyWill.FULL);
        Checks.refused(x, "ice(0)", () -> x.ice(0), PartyWill.FULL);
        Checks.refused(x, "lots(1, 1)", () -> x.lots(1, 1), PartyWill.FULL);
        Checks.due("undo(39)", x.undo(39), 1);
        Checks.due("undo(0)", x.undo(0), 39);
    }

    @Sentence(of = TERMS, says = "A PROGRAMME is a row of TUNES, of 0 to 6 (told in a ROW); such go by their first "
        + "TUNES, then second ones, ..")
    static void terms_programmesOf0To6_byTheirFirstTunes() {
        PartyWill x = Checks.party("c34444 g1g0 x10");
        for (int n = 0; n <= 7; n++) {
            x.row(0, n);
            int want = n <= 6 ? PartyWill.NONE : PartyWill.FINDING;
            Checks.due("falls(0) by " + n + " TUNES", x.falls(0), want);
        }
        x.does(0, 3);
        x.does(1, 1);
        x.does(2, 1);
        x.does(3, -4);
        Checks.due("first(4, 0)", x.first(4, 0), 4);
        Checks.rowIs(x, 0, 1, 1, 3, 0);
    }

    @Sentence(of = TERMS, says = "LOTS: a number comes from the one ahead by 48271 times it modulo 2147483647, the "
        + "first from a seed (1 .. 2147483646).")
    static void terms_lots_seeds1To2147483646() {
        PartyWill x = Checks.party("c94567 g0");
        int[] bad = {0, -1, Checks.MOST, Checks.LEAST};
        for (int seed : bad) {
            Checks.refused(x, "lots(1, " + seed + ")", () -> x.lots(1, seed), PartyWill.BAD);
        }
        // 48271, 182605794, 1291394886 by 16 are 3016, 11412862, 80712180: tunes 0, 2, 0
        Checks.due("lots(3, 1)", x.lots(3, 1), 0);
        Checks.griefs(x, "by silence, a waltz, silence", 2);
        // 2147483646 times 48271 is -48271, so 2147435376, by 16 134214711: tune 3
        Checks.due("lots(1, 2147483646)", x.lots(1, 2147483646), 0);
        Checks.griefs(x, "and an air", 5);
    }
}
