/** Promises 21 to 24: who would be out. */
public final class AsideTest {
    /** Clause 5; silence 0, polka 1, waltz -2, air 3; 0 and 1 see one another, 2 sees 0. */
    private static final String PARTY = "c54527 g4m2y0 x01x10x20";

    public static void main(String[] args) {
        outs();
        safeTunes();
        programmesFall();
        programmesRefused();
        griefBehindProgrammes();
        Checks.end();
    }

    private static void outs() {
        PartyWill x = new PartyWill();
        Checks.due("out(0) without GUESTS", x.out(0), 0);
        Checks.due("asked()", x.asked(), 0);
        Checks.due("out(4)", x.out(4), PartyWill.BAD);
        Checks.due("out(-1)", x.out(-1), PartyWill.BAD);
        x = Checks.party(PARTY);
        long before = x.digest();
        Checks.due("out(0)", x.out(0), 0);
        Checks.due("out(0), asked()", x.asked(), 6);
        Checks.due("out(1)", x.out(1), 0);
        Checks.due("out(1), asked()", x.asked(), 10);
        Checks.due("out(2)", x.out(2), 0);
        Checks.due("out(2), asked()", x.asked(), 2);
        Checks.due("out(3)", x.out(3), 3);
        Checks.due("out(3), asked()", x.asked(), 1);
        Checks.due("digest() behind out()", x.digest(), before);
        x.tune(3);
        Checks.due("out(3) again", x.out(3), 0);
        Checks.due("out(3) again, asked()", x.asked(), 2);
    }

    private static void safeTunes() {
        Checks.due("safe() without GUESTS", new PartyWill().safe(), PartyWill.STATE);
        PartyWill x = Checks.party(PARTY);
        Checks.due("safe()", x.safe(), 7);
        x.tune(1);
        Checks.due("safe() behind a polka", x.safe(), 5);
        x.tune(3);
        Checks.due("safe() when 0, 1 are OUT", x.safe(), 15);
    }

    private static void programmesFall() {
        PartyWill x = Checks.party(PARTY);
        Checks.row(x, 0, 1, 2, 1, 1, 3);
        Checks.due("falls(1 2 1 1 3)", x.falls(0), 3);
        Checks.due("asked()", x.asked(), 2);
        Checks.row(x, 1, 3);
        Checks.due("falls(3)", x.falls(1), 0);
        Checks.due("asked()", x.asked(), 3);
        Checks.row(x, 2, 0, 0, 2, 0, 2, 0);
        Checks.due("falls(0 0 2 0 2 0)", x.falls(2), PartyWill.NONE);
        Checks.due("asked()", x.asked(), 0);
        x.falls(1);
        x.row(3, 0);
        Checks.due("falls by no TUNES", x.falls(3), PartyWill.NONE);
        Checks.due("asked()", x.asked(), 0);
        x.tune(3);
        Checks.due("falls(3) when they are OUT", x.falls(1), PartyWill.NONE);
        Checks.due("DEEDS", x.count(2), 1);
    }

    private static void programmesRefused() {
        PartyWill x = new PartyWill();
        Checks.due("falls(6)", x.falls(6), PartyWill.BAD);
        Checks.due("falls(-1)", x.falls(-1), PartyWill.BAD);
        Checks.found(x, "falls(0) missing", x.falls(0), 1);
        Checks.row(x, 0, 0, 0, 0, 0, 0, 0, 9);
        Checks.found(x, "falls(0) of 7", x.falls(0), 5);
        Checks.row(x, 0, 0, 0, 0, 0, 0, 4);
        Checks.found(x, "falls(0) with 4", x.falls(0), 3);
        Checks.row(x, 0, -1);
        Checks.found(x, "falls(0) with -1", x.falls(0), 3);
        Checks.row(x, 0, 3, 3, 3, 3, 3, 3);
        Checks.due("falls(0) without GUESTS", x.falls(0), PartyWill.NONE);
        Checks.due("grief(0, 0) without GUESTS", x.grief(0, 0), PartyWill.BAD);
    }

    private static void griefBehindProgrammes() {
        PartyWill x = Checks.party(PARTY);
        Checks.row(x, 0, 1, 2, 1);
        int[] want = {4, 4, 1};
        for (int i = 0; i < 3; i++) {
            Checks.due("grief(" + i + ", 1 2 1)", x.grief(i, 0), want[i]);
        }
        Checks.row(x, 1, 3, 1, 1);
        int[] wantOut = {0, 0, 3};
        for (int i = 0; i < 3; i++) {
            Checks.due("grief(" + i + ", 3 1 1)", x.grief(i, 1), wantOut[i]);
        }
        x.row(2, 0);
        Checks.due("grief(0, none)", x.grief(0, 2), 4);
        Checks.due("grief(3, 0)", x.grief(3, 0), PartyWill.BAD);
        Checks.due("grief(-1, 0)", x.grief(-1, 0), PartyWill.BAD);
        Checks.due("grief(0, 6)", x.grief(0, 6), PartyWill.BAD);
        Checks.due("grief(0, -1)", x.grief(0, -1), PartyWill.BAD);
        Checks.found(x, "grief(0, 3)", x.grief(0, 3), 1);
        Checks.row(x, 3, 0, 0, 0, 0, 0, 0, 0);
        Checks.found(x, "grief(0, 7 tunes)", x.grief(0, 3), 5);
        Checks.row(x, 3, 5);
        Checks.found(x, "grief(0, no tune)", x.grief(0, 3), 3);
    }
}
