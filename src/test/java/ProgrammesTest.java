/** Promises 25 to 30: programmes, ices needed, the aunt. */
public final class ProgrammesTest {
    /** Clause 5; silence 0, polka 1, waltz -2, air 3; 0 and 1 see one another, 2 sees 0. */
    private static final String PARTY = "c54527 g4m2y0 x01x10x20";
    /** Every tune is by 5 but the air, by 4: each guest falls sooner or later. */
    private static final String SAD = "c39998 g3g0 x10x01";

    public static void main(String[] args) {
        staying();
        firsts();
        fewestFall();
        gayEndings();
        icesNeeded();
        icesRefused();
        aunts();
        Checks.end();
    }

    private static void refusedAlike(String call, int bad, int negative, int stateless) {
        Checks.due(call + " of 7", bad, PartyWill.BAD);
        Checks.due(call + " of -1", negative, PartyWill.BAD);
        Checks.due(call + " without GUESTS", stateless, PartyWill.STATE);
    }

    private static void staying() {
        PartyWill none = new PartyWill();
        refusedAlike("stay", none.stay(7), none.stay(-1), none.stay(0));
        PartyWill x = Checks.party(PARTY);
        Checks.told(x, "stay(0)", x.stay(0), 0);
        Checks.due("upper()", x.upper(), 1);
        Checks.told(x, "stay(1)", x.stay(1), 7);
        Checks.due("upper()", x.upper(), 3);
        // behind a polka a polka, an air fall; behind a waltz an air falls (g 5, m 6)
        Checks.told(x, "stay(2)", x.stay(2), 7);
        Checks.due("upper()", x.upper(), 8);
        Checks.due("lower()", x.lower(), 1);
        x = Checks.party(SAD);
        Checks.told(x, "stay(1), sad", x.stay(1), 0);
        Checks.due("upper(), sad", x.upper(), 0);
        Checks.due("lower(), sad", x.lower(), 1);
        x.tune(0);
        Checks.told(x, "stay(6), all OUT", x.stay(6), 15);
        Checks.due("upper(), all OUT", x.upper(), 4096);
    }

    private static void firsts() {
        PartyWill none = new PartyWill();
        refusedAlike("first", none.first(7, 0), none.first(-1, 0), none.first(0, 0));
        PartyWill x = Checks.party(PARTY);
        Checks.due("first(1, 6)", x.first(1, 6), PartyWill.BAD);
        Checks.due("first(1, -1)", x.first(1, -1), PartyWill.BAD);
        Checks.due("first(3, 0)", x.first(3, 0), 3);
        Checks.rowIs(x, 0, 0, 0, 0);
        Checks.due("first(0, 0)", x.first(0, 0), 0);
        Checks.rowIs(x, 0);
        x.does(0, 2);
        Checks.due("first(2, 5)", x.first(2, 5), 2);
        Checks.rowIs(x, 5, 1, 2);
        x = Checks.party(SAD);
        Checks.row(x, 1, 9, 9);
        Checks.due("first(1, 1), sad", x.first(1, 1), PartyWill.NONE);
        Checks.rowIs(x, 1, 9, 9);
        Checks.due("first(1, 2), sad", x.first(1, 2), PartyWill.NONE);
        Checks.due("ROWS", x.count(7), 1);
    }

    private static void fewestFall() {
        PartyWill none = new PartyWill();
        refusedAlike("fewest", none.fewest(7, 0), none.fewest(-1, 0), none.fewest(0, 0));
        PartyWill x = Checks.party(SAD);
        Checks.due("fewest(1, 6)", x.fewest(1, 6), PartyWill.BAD);
        Checks.due("fewest(1, -1)", x.fewest(1, -1), PartyWill.BAD);
        Checks.due("fewest(1, 2)", x.fewest(1, 2), 1 + 1);
        Checks.rowIs(x, 2, 0);
        x.does(3, 2);
        Checks.due("fewest(1, 2), an air by 2", x.fewest(1, 2), 1);
        Checks.rowIs(x, 2, 3);
        Checks.due("fewest(2, 2), an air by 2", x.fewest(2, 2), 1);
        Checks.rowIs(x, 2, 3, 0);
        Checks.due("fewest(0, 2)", x.fewest(0, 2), 0);
        Checks.rowIs(x, 2);
        x.tune(0);
        Checks.due("fewest(2, 2), all OUT", x.fewest(2, 2), 0);
        Checks.rowIs(x, 2, 0, 0);
    }

    private static void gayEndings() {
        Checks.due("gay() without GUESTS", new PartyWill().gay(), PartyWill.STATE);
        Checks.due("gay(), all gay", Checks.party("c34444 g0m0").gay(), 0);
        Checks.due("gay(), 6 waltzes", Checks.party("c94434 g6").gay(), 6);
        Checks.due("gay(), 7 waltzes", Checks.party("c94434 g7").gay(), PartyWill.NONE);
        Checks.due("gay(), a polka", Checks.party("c94444 u9").gay(), 1);
        Checks.due("gay(), unlike", Checks.party("c94444 u9d2").gay(), 2);
        PartyWill x = Checks.party("c34434 g5g1 x10");
        Checks.due("gay(), one falls", x.gay(), PartyWill.NONE);
        x.tune(0);
        Checks.due("gay(), it is OUT", x.gay(), 1);
        Checks.due("gay(), all OUT", allOut().gay(), 0);
    }

    private static PartyWill allOut() {
        PartyWill x = Checks.party(SAD);
        x.tune(0);
        return x;
    }

    private static void icesNeeded() {
        PartyWill x = Checks.party("c34543 g9d9y9g9m1 x01x10x02x04");
        x.row(0, 0);
        Checks.due("ices by no TUNES", x.ices(0), 0);
        Checks.row(x, 0, 0);
        // g and d come down to 3 by 2 ices each; the spy, the unseen g take none, m has 1
        Checks.due("ices(0)", x.ices(0), 4);
        Checks.row(x, 0, 1);
        // polka by 1: g needs 9 - 3k + 1 <= 3, so 3; d 9 - 3k <= 3, so 2; m 1 + 2 <= 3, none
        Checks.due("ices(1)", x.ices(0), 5);
        Checks.row(x, 0, 1, 1);
        // g 3 (2), d 2, m needs 1 (0, 2, 4): above by the second polka
        Checks.due("ices(1 1)", x.ices(0), PartyWill.NONE);
        x.does(1, 0);
        Checks.due("ices(1 1) by 0", x.ices(0), 4);
        x = Checks.party("c10009 g1g1 x10");
        Checks.row(x, 0, 3);
        Checks.due("ices, by none", x.ices(0), PartyWill.NONE);
        x.tune(3);
        Checks.due("ices, it is OUT", x.ices(0), 0);
    }

    private static void icesRefused() {
        PartyWill x = new PartyWill();
        Checks.due("ices(6)", x.ices(6), PartyWill.BAD);
        Checks.due("ices(-1)", x.ices(-1), PartyWill.BAD);
        Checks.due("ices(0) without GUESTS", x.ices(0), PartyWill.STATE);
        x = Checks.party(SAD);
        Checks.found(x, "ices(0) missing", x.ices(0), 1);
        Checks.row(x, 0, 4, 4, 4, 4, 4, 4, 4);
        Checks.found(x, "ices(0) of 7", x.ices(0), 5);
        Checks.row(x, 0, 0, 4);
        Checks.found(x, "ices(0) with 4", x.ices(0), 3);
    }

    private static void aunts() {
        PartyWill none = new PartyWill();
        refusedAlike("aunt", none.aunt(4), none.aunt(-1), none.aunt(0));
        PartyWill x = Checks.party("c34444 g2g2 x01x10");
        Checks.due("aunt(0)", x.aunt(0), 0);
        Checks.due("aunt(1): her name puts one above", x.aunt(1), 1);
        Checks.due("aunt(3): nobody sees the other one", x.aunt(3), 1);
        x.does(3, -2);
        Checks.due("aunt(1), an air cheers", x.aunt(1), 0);
        Checks.due("aunt(2), an air cheers", x.aunt(2), 0);
        x = Checks.party("c34444 g4g0 x10");
        Checks.due("aunt(1): one falls ahead", x.aunt(1), 1);
        Checks.due("aunt(2), all OUT", allOut().aunt(2), 0);
        // silence, polka, waltz by -3: a MOURNER goes 0, 4, 1, 5 at the worst
        x = Checks.party("c41119 g2d2m1 x01x12x20");
        Checks.due("aunt(1), a MOURNER at the CLAUSE", x.aunt(1), 0);
        Checks.due("aunt(2), a MOURNER above", x.aunt(2), 1);
        Checks.due("aunt(3), the others get 2 a time", x.aunt(3), 1);
        long before = x.digest();
        x.aunt(3);
        Checks.due("digest() behind aunt()", x.digest(), before);
    }
}
