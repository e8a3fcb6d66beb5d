/** Promises 35 and 36: the will. */
public final class WillTest {
    public static void main(String[] args) {
        parts();
        partsRefused();
        stopping();
        Checks.end();
    }

    private static void parts() {
        PartyWill x = Checks.party("c34444 g1g4g1g1 x01");
        int[] want = {3, 3, 2, 2};
        for (int i = 0; i < 4; i++) {
            Checks.due("gets(" + i + ", 10) of 4", x.gets(i, 10), want[i]);
        }
        x.tune(0);
        int[] wantThree = {4, 0, 3, 3};
        for (int i = 0; i < 4; i++) {
            Checks.due("gets(" + i + ", 10) of 3", x.gets(i, 10), wantThree[i]);
        }
        int[] wantTwo = {1, 0, 1, 0};
        for (int i = 0; i < 4; i++) {
            Checks.due("gets(" + i + ", 2) of 3", x.gets(i, 2), wantTwo[i]);
        }
        Checks.due("gets(0, 999)", x.gets(0, 999), 333);
        x = Checks.party("c34444 g4g4 x01x10");
        x.tune(0);
        Checks.due("gets(0, 10), all OUT", x.gets(0, 10), 0);
    }

    private static void partsRefused() {
        PartyWill x = new PartyWill();
        Checks.due("gets(0, 1) without GUESTS", x.gets(0, 1), PartyWill.BAD);
        x = Checks.party("c34444 g1");
        Checks.due("gets(1, 1)", x.gets(1, 1), PartyWill.BAD);
        Checks.due("gets(-1, 1)", x.gets(-1, 1), PartyWill.BAD);
        Checks.due("gets(0, 0)", x.gets(0, 0), PartyWill.BAD);
        Checks.due("gets(0, 1000)", x.gets(0, 1000), PartyWill.BAD);
        Checks.due("gets(0, 1)", x.gets(0, 1), 1);
    }

    private static void stopping() {
        Checks.due("stops() without GUESTS", new PartyWill().stops(), PartyWill.NONE);
        Checks.due("stops() of one", Checks.party("c94444 g0").stops(), PartyWill.NONE);
        Checks.due("stops() of a pair", Checks.party("c34444 g1g1").stops(), 3);
        Checks.due("stops() at the CLAUSE", Checks.party("c34444 g1g2").stops(), PartyWill.NONE);
        Checks.due("stops() of three", Checks.party("c54444 g2g3g4").stops(), 7);
        Checks.due("stops() of five", Checks.party("c94444 g7g7g7g7g7g9").stops(), 31);
        Checks.due("stops() of six", Checks.party("c94444 g8g8g7g7g7g7").stops(), 63);
        Checks.due("the least pair", Checks.party("c54444 g4g2g2g1").stops(), 6);
        Checks.due("a pair ahead of a lesser three", Checks.party("c54444 g4g4g1g1").stops(), 12);
        PartyWill x = Checks.party("c54444 g0g6g0g0 x01");
        Checks.due("stops() ahead", x.stops(), 5);
        x.tune(0);
        Checks.due("stops(), 1 is OUT", x.stops(), 5);
        x = Checks.party("c54444 g6g0g4 x10");
        x.tune(0);
        Checks.due("stops(), 0 is OUT", x.stops(), 6);
        x.say(2);
        Checks.due("stops(), too sad", x.stops(), PartyWill.NONE);
    }
}
