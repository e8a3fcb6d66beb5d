/** Promises 31 to 34: what can be known by evenings and by what was seen. */
public final class EveningsTest {
    /** Silence 0, polka 3, waltz -2, air 1. */
    private static final String PARTY = "c94725 g5d5s5m5u5y5";

    public static void main(String[] args) {
        kindsByEvenings();
        griefsByEvenings();
        refusals();
        effects();
        weeping();
        Checks.end();
    }

    private static void kindsAre(PartyWill x, int guest, int want, int... evening) {
        Checks.row(x, 0, evening);
        Checks.due("kinds(" + guest + ", 0) by " + java.util.Arrays.toString(evening), x.kinds(guest, 0), want);
    }

    private static void kindsByEvenings() {
        PartyWill x = Checks.party(PARTY);
        kindsAre(x, 0, 63);
        kindsAre(x, 0, 63, 0, 5);
        kindsAre(x, 0, 0, 0, 4);
        kindsAre(x, 3, 1, 1, 8);
        kindsAre(x, 3, 2, 1, 7);
        kindsAre(x, 3, 36, 1, 6);
        kindsAre(x, 3, 8, 1, 11);
        kindsAre(x, 3, 16, 1, 0);
        kindsAre(x, 0, 45, 2, 3);
        kindsAre(x, 0, 18, 2, 2);
        kindsAre(x, 0, 55, 3, 6);
        kindsAre(x, 0, 18, 3, 6, 2, 3);
        kindsAre(x, 0, 2, 3, 6, 2, 3, 1, 5);
        kindsAre(x, 0, 63, 0, 5, 0, 5, 0, 5, 0, 5, 0, 5, 0, 5, 0, 5, 0, 5);
        x = Checks.party("c14445 g1g1 x10");
        kindsAre(x, 0, 55, 3, 2);
        kindsAre(x, 0, 32 + 16 + 4 + 2 + 1, 3, 2, 3, 3);
    }

    private static void griefsByEvenings() {
        PartyWill x = Checks.party(PARTY);
        x.row(0, 0);
        Checks.due("came(0, none)", x.came(0, 0), 2097151);
        Checks.row(x, 0, 2, 0);
        Checks.due("came(0, a waltz to 0)", x.came(0, 0), 7);
        Checks.due("came(1, a waltz to 0)", x.came(1, 0), 15);
        Checks.row(x, 0, 1, 20);
        Checks.due("came(0, a polka to 20)", x.came(0, 0), 15 << 17);
        Checks.due("came(3, a polka to 20)", x.came(3, 0), 127 << 14);
        Checks.due("came(4, a polka to 20)", x.came(4, 0), 0);
        Checks.row(x, 0, 1, 0, 3, 1);
        Checks.due("came(4, a polka, an air)", x.came(4, 0), 2097151);
        Checks.due("came(2, a polka, an air)", x.came(2, 0), 0);
        Checks.row(x, 0, 0, 9, 3, 10);
        Checks.due("came(5, silence, an air)", x.came(5, 0), 512);
    }

    private static void refusals() {
        PartyWill x = new PartyWill();
        Checks.due("kinds(0, 0) without GUESTS", x.kinds(0, 0), PartyWill.BAD);
        Checks.due("came(0, 0) without GUESTS", x.came(0, 0), PartyWill.BAD);
        x = Checks.party("c14444 g2g1 x10");
        refusedAs(x, 2, 0, PartyWill.BAD);
        refusedAs(x, -1, 0, PartyWill.BAD);
        refusedAs(x, 0, 6, PartyWill.BAD);
        refusedAs(x, 0, -1, PartyWill.BAD);
        x.tune(0);
        refusedAs(x, 0, 0, PartyWill.STATE);
        foundBy(x, 1);
        Checks.row(x, 0, 0, 1, 9);
        foundBy(x, 5);
        x.row(0, 18);
        foundBy(x, 5);
        x.row(0, 17);
        foundBy(x, 5);
        Checks.row(x, 0, 0, 2, 4, 1);
        foundBy(x, 3);
        Checks.row(x, 0, -1, 1);
        foundBy(x, 3);
        Checks.row(x, 0, 0, 21);
        foundBy(x, 3);
        Checks.row(x, 0, 0, -1);
        foundBy(x, 3);
    }

    private static void refusedAs(PartyWill x, int guest, int row, int want) {
        Checks.due("kinds(" + guest + ", " + row + ")", x.kinds(guest, row), want);
        Checks.due("came(" + guest + ", " + row + ")", x.came(guest, row), want);
    }

    private static void foundBy(PartyWill x, int finding) {
        Checks.found(x, "kinds(1, 0)", x.kinds(1, 0), finding);
        Checks.found(x, "came(1, 0)", x.came(1, 0), finding);
    }

    private static void effects() {
        PartyWill x = Checks.party(PARTY);
        Checks.due("a GUEST from 4 to 3", x.did(0, 0, 4, 3), 1 << 3);
        Checks.due("a GUEST from 4 to 4", x.did(0, 0, 4, 4), 1 << 4);
        Checks.due("a GUEST from 4 to 10", x.did(0, 0, 4, 10), 0);
        Checks.due("a GUEST from 2 to 0", x.did(0, 0, 2, 0), 7);
        Checks.due("a DANCER by an air", x.did(1, 3, 4, 5), 1 << 5);
        Checks.due("a DANCER by a waltz", x.did(1, 2, 4, 5), 1 << 6);
        Checks.due("a STONY one, more", x.did(2, 1, 4, 5), 992);
        Checks.due("a STONY one, 2 more", x.did(2, 1, 4, 6), 0);
        Checks.due("a MOURNER, 3 more", x.did(3, 1, 4, 7), 0);
        Checks.due("a MOURNER, 4 more", x.did(3, 1, 4, 8), 1 << 6);
        Checks.due("a MOURNER, less", x.did(3, 1, 4, 1), 1 << 1);
        Checks.due("an UNCLE by a polka", x.did(4, 1, 4, 0), 1023);
        Checks.due("an UNCLE by a polka, not 0", x.did(4, 1, 4, 4), 0);
        Checks.due("an UNCLE by a waltz", x.did(4, 2, 4, 4), 1 << 5);
        Checks.due("a SPY to 20", x.did(5, 0, 20, 20), 1008);
        int[][] bad = {{6, 0, 0, 0}, {-1, 0, 0, 0}, {0, 4, 0, 0}, {0, -1, 0, 0}, {0, 0, 21, 0}, {0, 0, -1, 0},
            {0, 0, 0, 21}, {0, 0, 0, -1}};
        for (int[] b : bad) {
            Checks.due("did(" + java.util.Arrays.toString(b) + ")", x.did(b[0], b[1], b[2], b[3]), PartyWill.BAD);
        }
        x = Checks.party("c14444 g2g1 x10");
        x.tune(0);
        Checks.due("did of one OUT", x.did(0, 0, 1, 1), 16);
    }

    private static void weeping() {
        PartyWill x = new PartyWill();
        Checks.due("wept(0) without GUESTS", x.wept(0), 0);
        Checks.due("wept(1) without GUESTS", x.wept(1), PartyWill.BAD);
        x = Checks.party("c34444 g4g0y9d0 x10x20x01x32");
        Checks.due("wept(0)", x.wept(0), 0);
        Checks.due("wept(1)", x.wept(1), 2);
        Checks.due("wept(2)", x.wept(2), 0);
        Checks.due("wept(6)", x.wept(6), 1);
        Checks.due("wept(8)", x.wept(8), 4);
        Checks.due("wept(15)", x.wept(15), 7);
        Checks.due("wept(16)", x.wept(16), PartyWill.BAD);
        Checks.due("wept(-1)", x.wept(-1), PartyWill.BAD);
        x.tune(0);
        Checks.due("wept(15), 0 is OUT", x.wept(15), 4);
        Checks.due("wept(1), 0 is OUT", x.wept(1), 0);
    }
}
