/** Promises 12 to 14: guests, their marks, what tunes do. */
public final class GuestsTest {
    public static void main(String[] args) {
        guests();
        marksRefused();
        marksOfDancers();
        marksOfStonyOnes();
        marksOfMourners();
        marksOfUncles();
        marksOfSpies();
        marksOfThoseOut();
        effects();
        Checks.end();
    }

    private static void guests() {
        PartyWill x = Checks.party("c34444 g4d1s0m9u2y8 x10x12x13x31x25");
        int[][] want = {
            {0, 4, 0, 0, 1}, {1, 1, 0, 13, 1}, {2, 0, 0, 32, 1}, {3, 9, 0, 2, 1}, {4, 2, 0, 0, 0}, {5, 8, 0, 0, 1},
        };
        for (int i = 0; i < 6; i++) {
            for (int what = 0; what < 5; what++) {
                Checks.told(x, "guest(" + i + ", " + what + ")", x.guest(i, what), want[i][what]);
            }
        }
        Checks.due("guest(6, 0)", x.guest(6, 0), PartyWill.BAD);
        Checks.due("guest(-1, 0)", x.guest(-1, 0), PartyWill.BAD);
        Checks.due("guest(0, 5)", x.guest(0, 5), PartyWill.BAD);
        Checks.due("guest(0, -1)", x.guest(0, -1), PartyWill.BAD);
        Checks.due("guest(0, 0) of none", new PartyWill().guest(0, 0), PartyWill.BAD);
        Checks.due("tune(0)", x.tune(0), 9);
        Checks.told(x, "guest(1, 4), its seer OUT", x.guest(1, 4), 0);
        Checks.told(x, "guest(0, 4), itself OUT", x.guest(0, 4), 1);
        Checks.told(x, "guest(0, 2)", x.guest(0, 2), 1);
        Checks.told(x, "guest(0, 1)", x.guest(0, 1), 0);
        Checks.told(x, "guest(3, 3), itself OUT", x.guest(3, 3), 2);
    }

    private static void marksRefused() {
        PartyWill x = Checks.party("c34444 g1d1s1m1u1y1");
        int[][] kinds = {{}, {1}, {2}, {3}, {1, 4}, {2, 5}};
        for (int i = 0; i < 6; i++) {
            for (int kind = 1; kind <= 5; kind++) {
                boolean is = false;
                for (int own : kinds[i]) {
                    is |= own == kind;
                }
                int got = x.mark(i, kind);
                Checks.due("mark(" + i + ", " + kind + ") fits", got >= 0 ? 1 : got, is ? 1 : PartyWill.FINDING);
            }
        }
        Checks.due("finding()", x.finding(), 3);
        Checks.due("mark(0, 0)", x.mark(0, 0), PartyWill.BAD);
        Checks.due("mark(0, 6)", x.mark(0, 6), PartyWill.BAD);
        Checks.due("mark(1, -1)", x.mark(1, -1), PartyWill.BAD);
        Checks.due("mark(6, 1)", x.mark(6, 1), PartyWill.BAD);
        Checks.due("mark(-1, 1)", x.mark(-1, 1), PartyWill.BAD);
        Checks.due("mark(0, 1) of none", new PartyWill().mark(0, 1), PartyWill.BAD);
    }

    private static void marksOfDancers() {
        PartyWill x = Checks.party("c94444 d5u5d0u0");
        Checks.due("a DANCER by 0 0 0 0", x.mark(0, 1), 2);
        Checks.due("an UNCLE by 0 0 0 0", x.mark(1, 1), 2);
        Checks.due("a DANCER without GRIEF", x.mark(2, 1), 0);
        Checks.due("an UNCLE without GRIEF", x.mark(3, 1), 0);
        x.does(1, 1);
        x.does(3, -1);
        Checks.due("a DANCER by 0 1 0 -1", x.mark(0, 1), 2);
        Checks.due("an UNCLE by 0 1 0 -1", x.mark(1, 1), 3);
    }

    private static void marksOfStonyOnes() {
        PartyWill x = Checks.party("c92323 s5y5");
        Checks.due("a STONY one, none rises", x.mark(0, 2), 0);
        x.does(2, 5);
        Checks.due("a STONY one by 5", x.mark(0, 2), 1);
        Checks.due("a SPY by 5", x.mark(1, 2), 1);
        for (int k = 0; k < 15; k++) {
            x.tune(2);
        }
        Checks.griefs(x, "behind 15 waltzes", 20, 20);
        Checks.due("a STONY one at 20", x.mark(0, 2), 0);
    }

    private static void marksOfMourners() {
        PartyWill x = Checks.party("c94444 m0m1m2m9m5");
        int[] want = {2, 2, 1, 0, 1};
        for (int i = 0; i < 5; i++) {
            Checks.due("mark of MOURNER " + i, x.mark(i, 3), want[i]);
        }
        x = Checks.party("c14444 m9m1");
        Checks.due("a MOURNER above", x.mark(0, 3), 0);
        Checks.due("a MOURNER at the CLAUSE", x.mark(1, 3), 0);
    }

    private static void marksOfUncles() {
        PartyWill x = Checks.party("c94444 u5g5g6s9d4y7");
        Checks.due("mark(0, 4)", x.mark(0, 4), 3);
        x.ice(3);
        x.ice(3);
        Checks.due("mark(0, 4) behind two ICES", x.mark(0, 4), 2);
    }

    private static void marksOfSpies() {
        PartyWill x = Checks.party("c64444 y9g3g4g5g9 x01x02x03x34");
        Checks.due("mark(0, 5)", x.mark(0, 5), 2);
        x = Checks.party("c14444 y0g2g0d0 x01x02");
        Checks.due("mark(0, 5), CLAUSE 1", x.mark(0, 5), 2);
        x.tune(0);
        Checks.told(x, "guest(1, 2)", x.guest(1, 2), 1);
        Checks.due("mark(0, 5), CLAUSE 1, GRIEF 0 of one OUT", x.mark(0, 5), 2);
    }

    private static void marksOfThoseOut() {
        PartyWill x = Checks.party("c14000 d9s9m9u9g1g9 x40x41x42x43x01x12x23x30x35");
        Checks.due("tune(0)", x.tune(0), 47);
        Checks.due("mark(0, 1) OUT", x.mark(0, 1), 0);
        Checks.due("mark(1, 2) OUT", x.mark(1, 2), 0);
        Checks.due("mark(2, 3) OUT", x.mark(2, 3), 0);
        Checks.due("mark(3, 4) OUT", x.mark(3, 4), 0);
        Checks.found(x, "mark(3, 5) OUT", x.mark(3, 5), 3);
    }

    private static void effects() {
        PartyWill x = new PartyWill();
        Checks.due("does(0, 0) without GUESTS", x.does(0, 0), PartyWill.STATE);
        Checks.due("does(4, 0) without GUESTS", x.does(4, 0), PartyWill.BAD);
        x = Checks.party("c90123g5");
        Checks.due("does(0, 5)", x.does(0, 5), -4);
        Checks.due("does(0, -4)", x.does(0, -4), 5);
        Checks.due("does(3, 0)", x.does(3, 0), -1);
        Checks.due("does(3, 6)", x.does(3, 6), PartyWill.BAD);
        Checks.due("does(3, -5)", x.does(3, -5), PartyWill.BAD);
        Checks.due("does(-1, 0)", x.does(-1, 0), PartyWill.BAD);
        Checks.due("does(4, 0)", x.does(4, 0), PartyWill.BAD);
        Checks.due("DEEDS behind does()", x.count(2), 0);
        x.tune(0);
        Checks.griefs(x, "behind silence by -4", 1);
    }
}
