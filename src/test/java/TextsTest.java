/** Promises 8 to 11: texts, their faults, parties. */
public final class TextsTest {
    public static void main(String[] args) {
        texts();
        bytes();
        soundTexts();
        faultsOfTheOpening();
        faultsOfGuests();
        faultsOfSights();
        parties();
        partiesRefused();
        Checks.end();
    }

    private static void texts() {
        PartyWill x = new PartyWill();
        Checks.due("text(0, 80)", x.text(0, 80), 80);
        Checks.due("text(3, 0)", x.text(3, 0), 0);
        Checks.due("text(0, 81)", x.text(0, 81), PartyWill.BAD);
        Checks.due("text(4, 1)", x.text(4, 1), PartyWill.BAD);
        Checks.due("text(-1, -1)", x.text(-1, -1), PartyWill.BAD);
        Checks.found(x, "text(0, -1)", x.text(0, -1), 5);
        Checks.due("count(8)", x.count(8), 2);
        x.put(0, 1, 65);
        x.text(0, 2);
        Checks.due("put into a new text", x.put(0, 1, 66), 1032);
    }

    private static void bytes() {
        PartyWill x = new PartyWill();
        x.text(0, 2);
        Checks.due("put(0, 0, 300)", x.put(0, 0, 300), 1032);
        Checks.due("put(0, 0, 128)", x.put(0, 0, 128), 1044);
        Checks.due("put(0, 0, -129)", x.put(0, 0, -129), 872);
        Checks.due("put(0, 0, 0)", x.put(0, 0, 0), 1127);
        Checks.due("put(4, 0, 0)", x.put(4, 0, 0), PartyWill.BAD);
        Checks.due("put(-1, 0, 0)", x.put(-1, 0, 0), PartyWill.BAD);
        Checks.found(x, "put(1, 5, 0)", x.put(1, 5, 0), 1);
        Checks.found(x, "put(0, 2, 0)", x.put(0, 2, 0), 2);
        Checks.found(x, "put(0, -1, 0)", x.put(0, -1, 0), 2);
    }

    private static void faultIs(String signs, int want) {
        PartyWill x = new PartyWill();
        Checks.text(x, 1, signs);
        Checks.due("fault of '" + signs + "'", x.fault(1), want);
        Checks.due("count(0) behind fault()", x.count(0), 0);
    }

    private static void soundTexts() {
        faultIs("c10000g0", PartyWill.NONE);
        faultIs("  c99999   d9  ", PartyWill.NONE);
        faultIs("c12345g1d2s3m4u5y6", PartyWill.NONE);
        faultIs("c12345g1d2x01x10", PartyWill.NONE);
        faultIs("c12345g1d2 x01  x10 ", PartyWill.NONE);
        PartyWill x = new PartyWill();
        Checks.due("fault(4)", x.fault(4), PartyWill.BAD);
        Checks.due("fault(-1)", x.fault(-1), PartyWill.BAD);
        Checks.found(x, "fault(0)", x.fault(0), 1);
    }

    private static void faultsOfTheOpening() {
        faultIs("", 0);
        faultIs("   ", 3);
        faultIs(" g1", 1);
        faultIs("C12345g1", 0);
        faultIs("c02345g1", 1);
        faultIs("cx2345g1", 1);
        faultIs("c 12345g1", 1);
        faultIs("c1234 5g1", 5);
        faultIs("c123", 4);
        faultIs("c1234:g1", 5);
        faultIs("c1/234g1", 2);
        faultIs("c12345", 6);
        faultIs("c12345  ", 8);
        faultIs("c123456g1", 6);
        faultIs("c12345c12345", 6);
    }

    private static void faultsOfGuests() {
        faultIs("c12345z1", 6);
        faultIs("c12345G1", 6);
        faultIs("c12345g", 7);
        faultIs("c12345g 1", 7);
        faultIs("c12345gg", 7);
        faultIs("c12345g12", 8);
        faultIs("c12345g1\t", 8);
        faultIs("c12345g1\u00e9", 8);
        faultIs("c12345g1g1g1g1g1g1g1", 18);
        faultIs("c12345g1g1g1g1g1g1 z", 19);
    }

    private static void faultsOfSights() {
        faultIs("c12345 x01", 7);
        faultIs("c12345g1x", 9);
        faultIs("c12345g1x0", 10);
        faultIs("c12345g1x00", 10);
        faultIs("c12345g1x01", 10);
        faultIs("c12345g1x1", 9);
        faultIs("c12345g1g1x2", 11);
        faultIs("c12345g1g1x 01", 11);
        faultIs("c12345g1g1x0 1", 12);
        faultIs("c12345g1g1x01 x01", 16);
        faultIs("c12345g1g1x01 x10 x10", 20);
        faultIs("c12345g1g1x01 g1", 14);
        faultIs("c12345g1g1x011", 13);
    }

    private static void parties() {
        PartyWill x = new PartyWill();
        Checks.text(x, 2, "c70941 g1 u9x01");
        Checks.due("party(2)", x.party(2), 2);
        Checks.due("count(1)", x.count(1), 7);
        Checks.due("what silence did", x.does(0, 0), -4);
        Checks.due("what a polka did", x.does(1, 0), 5);
        Checks.due("what a waltz did", x.does(2, 0), 0);
        Checks.due("what an air did", x.does(3, 0), -3);
        Checks.griefs(x, "as they came", 1, 9);
        Checks.told(x, "guest(1, 0)", x.guest(1, 0), 4);
        Checks.told(x, "guest(0, 3)", x.guest(0, 3), 2);
        x.tune(0);
        Checks.told(x, "guest(1, 2) when OUT", x.guest(1, 2), 1);
        x.keep(1);
        Checks.text(x, 0, "c14444d3");
        Checks.due("party(0) anew", x.party(0), 1);
        Checks.due("DEEDS anew", x.count(2), 0);
        Checks.due("kept PARTIES anew", x.count(9), 0);
        Checks.found(x, "on(1) anew", x.on(1), 1);
        Checks.due("what silence did anew", x.does(0, 1), 0);
        Checks.griefs(x, "anew", 3);
        Checks.told(x, "guest(0, 3) anew", x.guest(0, 3), 0);
        Checks.due("party(2) again", x.party(2), 2);
        Checks.due("all in again", x.count(3), 2);
        Checks.griefs(x, "again", 1, 9);
    }

    private static void partiesRefused() {
        PartyWill x = new PartyWill();
        Checks.due("party(4)", x.party(4), PartyWill.BAD);
        Checks.due("party(-1)", x.party(-1), PartyWill.BAD);
        Checks.found(x, "party(0)", x.party(0), 1);
        Checks.text(x, 0, "c12345");
        Checks.due("party(0) with a fault", x.party(0), PartyWill.STATE);
        Checks.text(x, 1, "c24444 g1y2 x01");
        x.party(1);
        x.tune(3);
        x.keep(2);
        long before = x.digest();
        Checks.text(x, 0, "c95555d9d9x01x01");
        long behind = x.digest();
        Checks.due("party(0) with a fault behind", x.party(0), PartyWill.STATE);
        Checks.due("digest() behind the refused party", x.digest(), behind);
        Checks.due("fault(0)", x.fault(0), 15);
        Checks.due("digest() behind fault()", x.digest(), behind);
        Checks.text(x, 0, "c12345");
        Checks.due("digest() as before", x.digest(), before);
    }
}
