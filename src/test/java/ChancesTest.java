/** Promises 37 to 39: chances and lots. */
public final class ChancesTest {
    /** Clause 5; silence 0, polka 1, waltz -2, air 3; 0 and 1 see one another, 2 sees 0. */
    private static final String PARTY = "c54527 g4m2y0 x01x10x20";

    public static void main(String[] args) {
        odds();
        means();
        lots();
        lotsRefused();
        Checks.end();
    }

    private static void odds() {
        PartyWill x = new PartyWill();
        Checks.due("odds(0) without GUESTS", x.odds(0), PartyWill.STATE);
        Checks.due("odds(7)", x.odds(7), PartyWill.BAD);
        Checks.due("odds(-1)", x.odds(-1), PartyWill.BAD);
        x = Checks.party(PARTY);
        Checks.share(x, "odds(0)", x.odds(0), 1, 1);
        Checks.share(x, "odds(1)", x.odds(1), 3, 4);
        Checks.share(x, "odds(2)", x.odds(2), 1, 2);
        Checks.due("odds(7)", x.odds(7), PartyWill.BAD);
        Checks.due("lower() behind a refusal", x.lower(), 2);
        x = Checks.party("c39998 g3g0 x10x01");
        Checks.share(x, "odds(1), none", x.odds(1), 0, 1);
        Checks.share(x, "odds(6), none", x.odds(6), 0, 1);
        x.tune(0);
        Checks.share(x, "odds(6), all OUT", x.odds(6), 1, 1);
    }

    private static void means() {
        PartyWill x = new PartyWill();
        Checks.due("mid(0) without GUESTS", x.mid(0), PartyWill.STATE);
        Checks.due("mid(7)", x.mid(7), PartyWill.BAD);
        Checks.due("mid(-1)", x.mid(-1), PartyWill.BAD);
        x = Checks.party(PARTY);
        Checks.share(x, "mid(0)", x.mid(0), 0, 1);
        Checks.share(x, "mid(1)", x.mid(1), 1, 2);
        x = Checks.party("c39998 g3g0 x10x01");
        Checks.share(x, "mid(1), both", x.mid(1), 2, 1);
        Checks.share(x, "mid(6), both", x.mid(6), 2, 1);
        x.tune(0);
        Checks.share(x, "mid(6), all OUT", x.mid(6), 0, 1);
        x = Checks.party("c34448 g3g0 x10");
        Checks.share(x, "mid(1), by an air", x.mid(1), 1, 4);
        Checks.share(x, "mid(2), by an air", x.mid(2), 7, 16);
    }

    private static void lots() {
        // seed 1: 48271, 182605794, 1291394886: by 16 cut 3016, 11412862, 80712180: tunes 0, 2, 0
        PartyWill x = Checks.party("c95674 g0y0");
        Checks.due("lots(1, 1)", x.lots(1, 1), 0);
        Checks.griefs(x, "behind silence", 1, 1);
        Checks.due("lots(3, 1)", x.lots(3, 1), 0);
        Checks.griefs(x, "behind silence, a waltz, silence", 6, 4);
        Checks.due("DEEDS", x.count(2), 4);
        Checks.due("undo(2)", x.undo(2), 2);
        Checks.griefs(x, "behind silence twice", 2, 2);
        // seed 2147483646 is -1: 2147483647 - 48271 = 2147435376, by 16 cut 134214711: tune 3
        x = Checks.party("c14448 g0g0 x10");
        Checks.due("lots(1, 2147483646)", x.lots(1, 2147483646), 1);
        Checks.due("in", x.count(3), 1);
    }

    private static void lotsRefused() {
        PartyWill x = new PartyWill();
        Checks.due("lots(1, 1) without GUESTS", x.lots(1, 1), PartyWill.STATE);
        Checks.due("lots(0, 1) without GUESTS", x.lots(0, 1), PartyWill.BAD);
        x = Checks.party("c94444 g0");
        Checks.due("lots(21, 1)", x.lots(21, 1), PartyWill.BAD);
        Checks.due("lots(-1, 1)", x.lots(-1, 1), PartyWill.BAD);
        Checks.due("lots(1, 0)", x.lots(1, 0), PartyWill.BAD);
        Checks.due("lots(1, -1)", x.lots(1, -1), PartyWill.BAD);
        Checks.due("lots(1, 2147483647)", x.lots(1, 2147483647), PartyWill.BAD);
        Checks.due("lots(20, 1)", x.lots(20, 1), 0);
        x.tune(0);
        Checks.due("lots(20, 1), 41", x.lots(20, 1), PartyWill.FULL);
        Checks.due("DEEDS", x.count(2), 21);
        Checks.due("lots(19, 1), 40", x.lots(19, 1), 0);
        Checks.due("lots(1, 1), full", x.lots(1, 1), PartyWill.FULL);
        Checks.due("lots(0, 1), full", x.lots(0, 1), PartyWill.BAD);
    }
}
