/** Promises 1 to 7, sentence by sentence: a new object, rows. */
final class SentencesOfRows {
    private static final int MOST = Checks.MOST, LEAST = Checks.LEAST;

    private SentencesOfRows() {
    }

    @Sentence(of = 1, says = "No ROWS, TEXTS, GUESTS; what each TUNE does: 0.")
    static void promise01_noRowsTextsGuests_eachTuneDoes0() {
        PartyWill x = new PartyWill();
        for (int r = 0; r < 6; r++) {
            Checks.due("at(" + r + ", 0)", x.at(r, 0), PartyWill.FINDING);
        }
        for (int t = 0; t < 4; t++) {
            Checks.due("put(" + t + ", 0, 0)", x.put(t, 0, 0), PartyWill.FINDING);
        }
        Checks.due("findings(NOTHING)", x.findings(Checks.NOTHING), 10);
        Checks.due("findings(BEYOND)", x.findings(Checks.BEYOND), 0);
        Checks.due("count(0)", x.count(0), 0);
        Checks.due("count(7)", x.count(7), 0);
        Checks.due("count(8)", x.count(8), 0);
        Checks.due("guest(0, 0)", x.guest(0, 0), PartyWill.BAD);
        int[] all = new int[14 + 3 + 6 + 4];
        System.arraycopy(Checks.times(13, -1), 0, all, 14, 13);
        Checks.due("digest(): 4 TUNES by 0", x.digest(), Checks.digestOf(all));
        x.row(0, 3);
        Checks.party("c19999 g1");
        Checks.due("digest() of another new one", new PartyWill().digest(), Checks.digestOf(all));
    }

    @Sentence(of = 2, says = "A ROW is there with n ints 0: n.")
    static void promise02_rowIsThereWithNInts0() {
        PartyWill x = new PartyWill();
        Checks.due("row(0, 0)", x.row(0, 0), 0);
        Checks.due("count(7), an empty ROW", x.count(7), 1);
        Checks.finds(x, "at(0, 0)", () -> x.at(0, 0), Checks.BEYOND);
        Checks.due("row(5, 1)", x.row(5, 1), 1);
        Checks.rowIs(x, 5, 0);
        Checks.due("row(5, 40)", x.row(5, 40), 40);
        Checks.rowIs(x, 5, new int[40]);
        x.lay(5, 0, 7);
        x.lay(5, 1, LEAST);
        x.lay(5, 39, MOST);
        Checks.due("row(5, 40) again", x.row(5, 40), 40);
        Checks.rowIs(x, 5, new int[40]);
        x.lay(5, 2, 7);
        Checks.due("row(5, 2)", x.row(5, 2), 2);
        Checks.rowIs(x, 5, 0, 0);
        Checks.due("row(5, 3)", x.row(5, 3), 3);
        Checks.rowIs(x, 5, 0, 0, 0);
        Checks.due("count(7)", x.count(7), 2);
    }

    @Sentence(of = 2, says = "BAD: also n above 40; SIZE: below 0.")
    static void promise02_badAlsoNAbove40_sizeBelow0() {
        PartyWill x = new PartyWill();
        Checks.row(x, 0, 8, 9);
        Checks.refused(x, "row(0, 41)", () -> x.row(0, 41), PartyWill.BAD);
        Checks.refused(x, "row(0, most)", () -> x.row(0, MOST), PartyWill.BAD);
        Checks.refused(x, "row(1, 41)", () -> x.row(1, 41), PartyWill.BAD);
        Checks.refused(x, "row(6, 1)", () -> x.row(6, 1), PartyWill.BAD);
        Checks.refused(x, "row(-1, 1)", () -> x.row(-1, 1), PartyWill.BAD);
        Checks.refused(x, "row(most, 0)", () -> x.row(MOST, 0), PartyWill.BAD);
        Checks.refused(x, "row(least, 0)", () -> x.row(LEAST, 0), PartyWill.BAD);
        Checks.refused(x, "row(6, -1)", () -> x.row(6, -1), PartyWill.BAD);
        Checks.refused(x, "row(-1, -1)", () -> x.row(-1, -1), PartyWill.BAD);
        Checks.finds(x, "row(0, -1)", () -> x.row(0, -1), Checks.SIZE);
        Checks.finds(x, "row(0, least)", () -> x.row(0, LEAST), Checks.SIZE);
        Checks.finds(x, "row(5, -1)", () -> x.row(5, -1), Checks.SIZE);
        Checks.rowIs(x, 0, 8, 9);
        Checks.due("row(0, 40)", x.row(0, 40), 40);
    }

    @Sentence(of = 3, says = "Place i of a ROW is v: what it was, told by asked(): 1.")
    static void promise03_placeIsV_whatItWas() {
        PartyWill x = new PartyWill();
        x.row(5, 40);
        Checks.told(x, "lay(5, 39, most)", x.lay(5, 39, MOST), 0);
        Checks.told(x, "lay(5, 39, least)", x.lay(5, 39, LEAST), MOST);
        Checks.told(x, "lay(5, 39, least) again", x.lay(5, 39, LEAST), LEAST);
        Checks.told(x, "lay(5, 39, -1)", x.lay(5, 39, -1), LEAST);
        Checks.told(x, "lay(5, 0, 4)", x.lay(5, 0, 4), 0);
        Checks.told(x, "lay(5, 0, 0)", x.lay(5, 0, 0), 4);
        Checks.told(x, "the place beside", x.at(5, 38), 0);
        Checks.told(x, "the last place", x.at(5, 39), -1);
        x.row(0, 1);
        Checks.told(x, "lay(0, 0, 300)", x.lay(0, 0, 300), 0);
        Checks.rowIs(x, 0, 300);
    }

    @Sentence(of = 3, says = "BAD; NOTHING; BEYOND.")
    static void promise03_badNothingBeyond() {
        PartyWill x = new PartyWill();
        x.row(0, 3);
        x.row(1, 0);
        Checks.refused(x, "lay(-1, 0, 1)", () -> x.lay(-1, 0, 1), PartyWill.BAD);
        Checks.refused(x, "lay(6, 9, 1)", () -> x.lay(6, 9, 1), PartyWill.BAD);
        Checks.refused(x, "lay(least, 0, 1)", () -> x.lay(LEAST, 0, 1), PartyWill.BAD);
        Checks.refused(x, "lay(most, 0, 1)", () -> x.lay(MOST, 0, 1), PartyWill.BAD);
        Checks.finds(x, "lay(5, 0, 1), missing", () -> x.lay(5, 0, 1), Checks.NOTHING);
        Checks.finds(x, "lay(5, -1, 1), missing", () -> x.lay(5, -1, 1), Checks.NOTHING);
        Checks.finds(x, "lay(0, -1, 1)", () -> x.lay(0, -1, 1), Checks.BEYOND);
        Checks.finds(x, "lay(0, 3, 1)", () -> x.lay(0, 3, 1), Checks.BEYOND);
        Checks.finds(x, "lay(0, most, 1)", () -> x.lay(0, MOST, 1), Checks.BEYOND);
        Checks.finds(x, "lay(0, least, 1)", () -> x.lay(0, LEAST, 1), Checks.BEYOND);
        Checks.finds(x, "lay(1, 0, 1), empty", () -> x.lay(1, 0, 1), Checks.BEYOND);
        x.row(2, 40);
        Checks.finds(x, "lay(2, 40, 1), full", () -> x.lay(2, 40, 1), Checks.BEYOND);
    }

    @Sentence(of = 4, says = "Place i of a ROW, told by asked(): 1.")
    static void promise04_placeOfARow() {
        PartyWill x = new PartyWill();
        x.row(5, 40);
        x.lay(5, 0, LEAST);
        x.lay(5, 39, -9);
        Checks.told(x, "at(5, 0)", x.at(5, 0), LEAST);
        Checks.told(x, "at(5, 39)", x.at(5, 39), -9);
        Checks.told(x, "at(5, 39) again", x.at(5, 39), -9);
        Checks.told(x, "at(5, 38)", x.at(5, 38), 0);
        Checks.row(x, 0, 1);
        Checks.told(x, "at(0, 0)", x.at(0, 0), 1);
        long before = x.digest();
        x.at(0, 0);
        Checks.due("digest() behind at()", x.digest(), before);
    }

    @Sentence(of = 4, says = "BAD; NOTHING; BEYOND.")
    static void promise04_badNothingBeyond() {
        PartyWill x = new PartyWill();
        Checks.row(x, 0, 1, 2, 3);
        x.row(1, 0);
        Checks.refused(x, "at(-1, 0)", () -> x.at(-1, 0), PartyWill.BAD);
        Checks.refused(x, "at(6, 9)", () -> x.at(6, 9), PartyWill.BAD);
        Checks.refused(x, "at(least, 0)", () -> x.at(LEAST, 0), PartyWill.BAD);
        Checks.refused(x, "at(most, 0)", () -> x.at(MOST, 0), PartyWill.BAD);
        Checks.finds(x, "at(5, 0), missing", () -> x.at(5, 0), Checks.NOTHING);
        Checks.finds(x, "at(5, -1), missing", () -> x.at(5, -1), Checks.NOTHING);
        Checks.finds(x, "at(0, -1)", () -> x.at(0, -1), Checks.BEYOND);
        Checks.finds(x, "at(0, 3)", () -> x.at(0, 3), Checks.BEYOND);
        Checks.finds(x, "at(0, most)", () -> x.at(0, MOST), Checks.BEYOND);
        Checks.finds(x, "at(0, least)", () -> x.at(0, LEAST), Checks.BEYOND);
        Checks.finds(x, "at(1, 0), empty", () -> x.at(1, 0), Checks.BEYOND);
        x.row(2, 40);
        Checks.finds(x, "at(2, 40), full", () -> x.at(2, 40), Checks.BEYOND);
    }

    @Sentence(of = 5, says = "A ROW is missing: 1.")
    static void promise05_rowIsMissing() {
        PartyWill x = new PartyWill();
        long none = x.digest();
        x.row(0, 0);
        x.row(5, 40);
        x.lay(5, 39, 6);
        Checks.due("tear(5), full", x.tear(5), 1);
        Checks.due("count(7)", x.count(7), 1);
        Checks.finds(x, "at(5, 39)", () -> x.at(5, 39), Checks.NOTHING);
        Checks.due("tear(0), empty", x.tear(0), 1);
        Checks.due("count(7)", x.count(7), 0);
        Checks.due("digest() as of a new object", x.digest(), none);
        Checks.due("row(5, 40)", x.row(5, 40), 40);
        Checks.told(x, "at(5, 39)", x.at(5, 39), 0);
    }

    @Sentence(of = 5, says = "BAD; NOTHING.")
    static void promise05_badNothing() {
        PartyWill x = new PartyWill();
        x.row(0, 1);
        x.row(5, 1);
        Checks.refused(x, "tear(-1)", () -> x.tear(-1), PartyWill.BAD);
        Checks.refused(x, "tear(6)", () -> x.tear(6), PartyWill.BAD);
        Checks.refused(x, "tear(most)", () -> x.tear(MOST), PartyWill.BAD);
        Checks.refused(x, "tear(least)", () -> x.tear(LEAST), PartyWill.BAD);
        Checks.finds(x, "tear(3), never there", () -> x.tear(3), Checks.NOTHING);
        x.tear(5);
        Checks.finds(x, "tear(5), twice", () -> x.tear(5), Checks.NOTHING);
        Checks.due("count(7)", x.count(7), 1);
    }

    @Sentence(of = 6, says = "n places of a ROW, from one on, come to those of another one (perhaps itself) from one "
        + "on, as if taken ahead: 1.")
    static void promise06_placesComeAsIfTakenAhead() {
        PartyWill x = new PartyWill();
        Checks.row(x, 0, 1, 2, 3, 4, 5);
        Checks.due("one place on, itself", x.copy(0, 0, 0, 1, 4), 1);
        Checks.rowIs(x, 0, 1, 1, 2, 3, 4);
        Checks.due("one place back, itself", x.copy(0, 1, 0, 0, 4), 1);
        Checks.rowIs(x, 0, 1, 2, 3, 4, 4);
        Checks.due("all to itself", x.copy(0, 0, 0, 0, 5), 1);
        Checks.rowIs(x, 0, 1, 2, 3, 4, 4);
        Checks.row(x, 1, 7, 8, 9);
        Checks.due("one to the last place", x.copy(0, 0, 1, 2, 1), 1);
        Checks.rowIs(x, 1, 7, 8, 1);
        Checks.due("all of another one", x.copy(0, 2, 1, 0, 3), 1);
        Checks.rowIs(x, 1, 3, 4, 4);
        Checks.rowIs(x, 0, 1, 2, 3, 4, 4);
        x.row(4, 40);
        x.row(5, 40);
        x.lay(4, 0, LEAST);
        x.lay(4, 39, MOST);
        Checks.due("40 places", x.copy(4, 0, 5, 0, 40), 1);
        Checks.told(x, "at(5, 0)", x.at(5, 0), LEAST);
        Checks.told(x, "at(5, 39)", x.at(5, 39), MOST);
        long before = x.digest();
        Checks.due("none", x.copy(0, 0, 1, 0, 0), 1);
        Checks.due("digest() behind none", x.digest(), before);
    }

    @Sentence(of = 6, says = "BAD; SIZE: n below 0; NOTHING: either; BEYOND: not so many there (with n 0, too, if i "
        + "or j is below 0 or above the size).")
    static void promise06_bad_sizeBelow0_nothingEither_beyondNotSoMany() {
        PartyWill x = new PartyWill();
        Checks.row(x, 0, 1, 2, 3, 4, 5);
        Checks.row(x, 1, 6, 7, 8);
        x.row(2, 0);
        Checks.refused(x, "from ROW 6", () -> x.copy(6, 0, 1, 0, 1), PartyWill.BAD);
        Checks.refused(x, "to ROW -1", () -> x.copy(0, 0, -1, 0, 1), PartyWill.BAD);
        Checks.finds(x, "n -1", () -> x.copy(0, 0, 1, 0, -1), Checks.SIZE);
        Checks.finds(x, "n least", () -> x.copy(0, 0, 1, 0, LEAST), Checks.SIZE);
        Checks.finds(x, "from none", () -> x.copy(5, 0, 1, 0, 0), Checks.NOTHING);
        Checks.finds(x, "to none", () -> x.copy(0, 0, 5, 0, 0), Checks.NOTHING);
        Checks.finds(x, "one too many of a ROW", () -> x.copy(0, 3, 1, 0, 3), Checks.BEYOND);
        Checks.finds(x, "one too many for a ROW", () -> x.copy(0, 0, 1, 1, 3), Checks.BEYOND);
        Checks.finds(x, "n 41", () -> x.copy(0, 0, 1, 0, 41), Checks.BEYOND);
        Checks.finds(x, "from -1", () -> x.copy(0, -1, 1, 0, 1), Checks.BEYOND);
        Checks.finds(x, "to -1", () -> x.copy(0, 0, 1, -1, 1), Checks.BEYOND);
        Checks.finds(x, "all most", () -> x.copy(0, MOST, 1, MOST, MOST), Checks.BEYOND);
        Checks.finds(x, "i least", () -> x.copy(0, LEAST, 1, 0, MOST), Checks.BEYOND);
        Checks.finds(x, "j least", () -> x.copy(0, 0, 1, LEAST, 1), Checks.BEYOND);
        copyOfNone(x);
    }

    private static void copyOfNone(PartyWill x) {
        Checks.due("none from the end", x.copy(0, 5, 1, 0, 0), 1);
        Checks.due("none to the end", x.copy(0, 0, 1, 3, 0), 1);
        Checks.due("none of an empty ROW", x.copy(2, 0, 2, 0, 0), 1);
        Checks.finds(x, "none from above the size", () -> x.copy(0, 6, 1, 0, 0), Checks.BEYOND);
        Checks.finds(x, "none to above the size", () -> x.copy(0, 0, 1, 4, 0), Checks.BEYOND);
        Checks.finds(x, "none from -1", () -> x.copy(0, -1, 1, 0, 0), Checks.BEYOND);
        Checks.finds(x, "none to -1", () -> x.copy(0, 0, 1, -1, 0), Checks.BEYOND);
        Checks.finds(x, "none from 1 of an empty ROW", () -> x.copy(2, 1, 0, 0, 0), Checks.BEYOND);
        Checks.finds(x, "none from most", () -> x.copy(0, MOST, 1, 0, 0), Checks.BEYOND);
        Checks.finds(x, "one of an empty ROW", () -> x.copy(2, 0, 0, 0, 1), Checks.BEYOND);
        Checks.rowIs(x, 1, 6, 7, 8);
    }

    @Sentence(of = 6, says = "(In this order.)")
    static void promise06_inThisOrder() {
        PartyWill x = new PartyWill();
        x.row(0, 2);
        Checks.refused(x, "BAD ahead of SIZE", () -> x.copy(6, 0, 0, 0, -1), PartyWill.BAD);
        Checks.refused(x, "BAD (to) ahead of SIZE", () -> x.copy(0, 0, 6, 0, -1), PartyWill.BAD);
        Checks.refused(x, "BAD (to) ahead of NOTHING", () -> x.copy(1, 0, 6, 0, 1), PartyWill.BAD);
        Checks.refused(x, "BAD ahead of BEYOND", () -> x.copy(-1, 0, 0, 9, 1), PartyWill.BAD);
        Checks.finds(x, "SIZE ahead of NOTHING", () -> x.copy(1, 0, 0, 0, -1), Checks.SIZE);
        Checks.finds(x, "SIZE ahead of NOTHING (to)", () -> x.copy(0, 0, 1, 0, -1), Checks.SIZE);
        Checks.finds(x, "SIZE ahead of BEYOND", () -> x.copy(0, 9, 0, 0, -1), Checks.SIZE);
        Checks.finds(x, "NOTHING ahead of BEYOND", () -> x.copy(1, 0, 0, 9, 1), Checks.NOTHING);
        Checks.finds(x, "NOTHING (to) ahead of BEYOND", () -> x.copy(0, 9, 1, 0, 1), Checks.NOTHING);
        Checks.finds(x, "NOTHING: both", () -> x.copy(1, -1, 2, -1, 50), Checks.NOTHING);
    }

    @Sentence(of = 7, says = "The mean of a ROW's ints, cut, told by asked(): 1.")
    static void promise07_meanCut() {
        PartyWill x = new PartyWill();
        Checks.row(x, 0, -6);
        Checks.told(x, "mean of one", x.mean(0), -6);
        Checks.row(x, 0, 3, 4);
        Checks.told(x, "mean of 3 4", x.mean(0), 3);
        Checks.row(x, 0, -3, -4);
        Checks.told(x, "mean of -3 -4", x.mean(0), -3);
        Checks.row(x, 0, 0, -1);
        Checks.told(x, "mean of 0 -1", x.mean(0), 0);
        Checks.row(x, 0, MOST, MOST);
        Checks.told(x, "mean of most, most", x.mean(0), MOST);
        Checks.row(x, 0, MOST, LEAST);
        Checks.told(x, "mean of most, least", x.mean(0), 0);
        Checks.row(x, 5, Checks.times(40, LEAST));
        Checks.told(x, "mean of 40 least", x.mean(5), LEAST);
        Checks.row(x, 5, Checks.times(40, MOST));
        Checks.told(x, "mean of 40 most", x.mean(5), MOST);
        x.lay(5, 0, MOST - 1);
        Checks.told(x, "mean of 39 most and one less", x.mean(5), MOST - 1);
    }

    @Sentence(of = 7, says = "BAD; NOTHING; NOUGHT.")
    static void promise07_badNothingNought() {
        PartyWill x = new PartyWill();
        Checks.row(x, 0, 5);
        x.mean(0);
        x.row(5, 0);
        Checks.refused(x, "mean(-1)", () -> x.mean(-1), PartyWill.BAD);
        Checks.refused(x, "mean(6)", () -> x.mean(6), PartyWill.BAD);
        Checks.refused(x, "mean(most)", () -> x.mean(MOST), PartyWill.BAD);
        Checks.refused(x, "mean(least)", () -> x.mean(LEAST), PartyWill.BAD);
        Checks.finds(x, "mean(3), missing", () -> x.mean(3), Checks.NOTHING);
        Checks.finds(x, "mean(5), of none", () -> x.mean(5), Checks.NOUGHT);
        Checks.due("asked()", x.asked(), 5);
    }
}
