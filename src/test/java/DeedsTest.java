/** Promises 15 to 20: tunes, names, ices, undone, kept, gone on from; and how grief goes. */
public final class DeedsTest {
    private static final String ALL_KINDS = "c94444 g5d5s5m5u5y5";

    public static void main(String[] args) {
        griefByTunes();
        griefHasBounds();
        griefByNamesAndIces();
        whoIsOut();
        tunes();
        names();
        ices();
        undoing();
        keeping();
        goingOn();
        Checks.end();
    }

    private static void tuneGives(int tune, int effect, int... griefs) {
        PartyWill x = Checks.party(ALL_KINDS);
        x.does(tune, effect);
        Checks.due("tune(" + tune + ") by " + effect, x.tune(tune), 0);
        Checks.griefs(x, "behind tune(" + tune + ") by " + effect, griefs);
    }

    private static void griefByTunes() {
        tuneGives(0, 3, 8, 8, 6, 11, 8, 6);
        tuneGives(1, 3, 8, 7, 6, 11, 0, 6);
        tuneGives(2, 3, 8, 7, 6, 11, 7, 6);
        tuneGives(3, 3, 8, 8, 6, 11, 8, 6);
        tuneGives(0, 0, 5, 5, 5, 5, 5, 5);
        tuneGives(1, 0, 5, 4, 5, 5, 0, 5);
        tuneGives(2, 0, 5, 4, 5, 5, 4, 5);
        tuneGives(3, -2, 3, 3, 3, 3, 3, 3);
        tuneGives(1, -2, 3, 2, 3, 3, 0, 3);
        tuneGives(2, 1, 6, 5, 6, 7, 5, 6);
    }

    private static void griefHasBounds() {
        PartyWill x = Checks.party("c99840 g5d5s5m5u5y5");
        x.tune(0);
        x.tune(0);
        x.tune(0);
        Checks.griefs(x, "behind 3 times 5", 20, 20, 8, 20, 20, 8);
        x.tune(1);
        Checks.griefs(x, "at 20, by 4", 20, 20, 9, 20, 0, 9);
        x.say(3);
        Checks.griefs(x, "at 20, by her name", 20, 20, 9, 20, 0, 9);
        x.tune(2);
        Checks.griefs(x, "a waltz by 0", 20, 19, 9, 20, 0, 9);
        for (int k = 0; k < 6; k++) {
            x.tune(3);
        }
        Checks.griefs(x, "behind 6 times -4", 0, 0, 0, 0, 0, 0);
        Checks.due("ice(0) at 0", x.ice(0), 0);
    }

    private static void griefByNamesAndIces() {
        PartyWill x = Checks.party(ALL_KINDS);
        int[] named = {7, 7, 6, 9, 7, 6};
        for (int i = 0; i < 6; i++) {
            Checks.due("say(" + i + ")", x.say(i), named[i]);
            Checks.due("ice(" + i + ")", x.ice(i), named[i] - 3);
        }
        Checks.due("DEEDS", x.count(2), 12);
    }

    private static void outIs(String signs, int tune, int want) {
        PartyWill x = Checks.party(signs);
        Checks.due("tune(" + tune + ") by " + signs, x.tune(tune), want);
        Checks.due("in by " + signs, x.count(3), x.count(0) - Integer.bitCount(want));
    }

    private static void whoIsOut() {
        outIs("c34444 g4g0 x10", 0, 1);
        outIs("c44444 g4g0 x10", 0, 0);
        outIs("c34444 g4g0 x01", 0, 0);
        outIs("c34444 y4g0 x10", 0, 0);
        outIs("c34444 s4g0 x10", 0, 1);
        outIs("c34444 g4g4 x10x01", 0, 3);
        outIs("c34444 g4g4g4 x10x21x02", 0, 7);
        outIs("c34445 g3u3 x01x10", 3, 3);
        PartyWill x = Checks.party("c36444 g3g3g0 x01x20");
        Checks.due("say(0), seen", x.say(0), 0);
        Checks.due("nobody in sees 1 now", x.tune(0), 0);
        Checks.griefs(x, "behind all that", 0, 5, 2);
        Checks.due("all GRIEF", x.count(4), 7);
    }

    private static void tunes() {
        PartyWill x = new PartyWill();
        Checks.due("tune(0) without GUESTS", x.tune(0), PartyWill.STATE);
        Checks.due("tune(4) without GUESTS", x.tune(4), PartyWill.BAD);
        Checks.due("tune(-1) without GUESTS", x.tune(-1), PartyWill.BAD);
        x = Checks.party("c34444 g4g4 x10x01");
        Checks.due("tune(0)", x.tune(0), 3);
        for (int k = 1; k < 40; k++) {
            Checks.due("tune(0) to nobody", x.tune(0), 0);
        }
        Checks.due("DEEDS", x.count(2), 40);
        Checks.due("a 41st", x.tune(0), PartyWill.FULL);
        Checks.due("tune(4), full", x.tune(4), PartyWill.BAD);
        Checks.due("say(0), full, OUT", x.say(0), PartyWill.STATE);
        Checks.due("ice(0), full, OUT", x.ice(0), PartyWill.STATE);
        x.undo(39);
        Checks.due("a 40th again", x.tune(0), 0);
    }

    private static void fill(PartyWill x, int deeds) {
        while (x.count(2) < deeds) {
            x.tune(0);
        }
    }

    private static void names() {
        PartyWill x = new PartyWill();
        Checks.due("say(0) without GUESTS", x.say(0), PartyWill.BAD);
        x = Checks.party("c54444 g4g4y0m0 x21x20x23");
        Checks.due("say(0)", x.say(0), 0);
        Checks.told(x, "guest(0, 2)", x.guest(0, 2), 1);
        Checks.due("say(0) OUT", x.say(0), PartyWill.STATE);
        Checks.due("say(3)", x.say(3), 4);
        Checks.due("say(2)", x.say(2), 1);
        Checks.due("say(4)", x.say(4), PartyWill.BAD);
        Checks.due("say(-1)", x.say(-1), PartyWill.BAD);
        fill(x, 39);
        Checks.due("say(2), the 40th", x.say(2), 2);
        Checks.due("say(2), the 41st", x.say(2), PartyWill.FULL);
        x = Checks.party("c34444 g9g1 x10");
        Checks.due("say(1): all are looked at", x.say(1), 3);
        Checks.told(x, "guest(0, 2) by another's name", x.guest(0, 2), 1);
    }

    private static void ices() {
        PartyWill x = new PartyWill();
        Checks.due("ice(0) without GUESTS", x.ice(0), PartyWill.BAD);
        x = Checks.party("c34444 g6g7g2 x20x21");
        Checks.due("ice(2): all are looked at", x.ice(2), 0);
        Checks.due("in", x.count(3), 1);
        Checks.due("ice(0) OUT", x.ice(0), PartyWill.STATE);
        x = Checks.party("c34444 g7g2 x10");
        Checks.due("ice(0): 4, seen", x.ice(0), 0);
        Checks.due("ice(2)", x.ice(2), PartyWill.BAD);
        Checks.due("ice(-1)", x.ice(-1), PartyWill.BAD);
        x = Checks.party("c34444 g6g2 x10");
        Checks.due("ice(0): 3, seen", x.ice(0), 3);
        fill(x, 39);
        Checks.due("ice(0), the 40th", x.ice(0), 0);
        Checks.due("ice(0), the 41st", x.ice(0), PartyWill.FULL);
    }

    private static void undoing() {
        PartyWill x = new PartyWill();
        Checks.due("undo(0) without GUESTS", x.undo(0), 0);
        Checks.due("undo(1) without GUESTS", x.undo(1), PartyWill.BAD);
        x = Checks.party("c34544 g3g0 x10");
        x.say(1);
        Checks.due("tune(1)", x.tune(1), 1);
        x.ice(1);
        Checks.due("undo(4)", x.undo(4), PartyWill.BAD);
        Checks.due("undo(-1)", x.undo(-1), PartyWill.BAD);
        Checks.due("undo(3)", x.undo(3), 0);
        x.does(1, -3);
        Checks.due("undo(1)", x.undo(1), 2);
        Checks.griefs(x, "behind undo(1)", 3, 2);
        Checks.due("what a polka does stays", x.does(1, 4), -3);
        x.tune(0);
        x.does(0, 5);
        x.ice(1);
        Checks.due("undo(2)", x.undo(2), 1);
        Checks.griefs(x, "as they were, not played anew", 3, 2);
        Checks.due("undo(0)", x.undo(0), 2);
        Checks.griefs(x, "behind undo(0)", 3, 0);
        Checks.due("DEEDS", x.count(2), 0);
    }

    private static void keeping() {
        PartyWill x = new PartyWill();
        Checks.due("keep(0) without GUESTS", x.keep(0), PartyWill.STATE);
        Checks.due("keep(3) without GUESTS", x.keep(3), PartyWill.BAD);
        Checks.due("keep(-1) without GUESTS", x.keep(-1), PartyWill.BAD);
        x = Checks.party("c34544 g3g0 x10");
        Checks.due("keep(0)", x.keep(0), 0);
        x.tune(0);
        Checks.due("keep(2)", x.keep(2), 1);
        Checks.due("kept", x.count(9), 2);
        Checks.due("keep(2) again", x.keep(2), 1);
        Checks.due("kept still", x.count(9), 2);
    }

    private static void goingOn() {
        PartyWill x = new PartyWill();
        Checks.due("on(3)", x.on(3), PartyWill.BAD);
        Checks.due("on(-1)", x.on(-1), PartyWill.BAD);
        Checks.found(x, "on(0)", x.on(0), 1);
        x = Checks.party("c35544 g2g0 x10");
        x.tune(0);
        x.keep(1);
        Checks.due("tune(1)", x.tune(1), 1);
        x.does(0, -4);
        Checks.due("on(1)", x.on(1), 1);
        Checks.griefs(x, "as kept", 3, 1);
        Checks.due("all in", x.count(3), 2);
        Checks.due("what silence does stays", x.does(0, 1), -4);
        Checks.due("undo(0)", x.undo(0), 1);
        Checks.griefs(x, "ahead of what was kept", 2, 0);
        x.say(0);
        x.say(0);
        Checks.due("on(1) again", x.on(1), 1);
        Checks.griefs(x, "as kept again", 3, 1);
        Checks.found(x, "on(0)", x.on(0), 1);
        Checks.due("kept still", x.count(9), 1);
        deedsKept();
    }

    private static void deedsKept() {
        PartyWill x = Checks.party("c94544 g2");
        x.tune(1);
        x.tune(1);
        x.keep(0);
        x.undo(0);
        x.ice(0);
        x.say(0);
        x.say(0);
        Checks.due("on(0)", x.on(0), 2);
        Checks.griefs(x, "as kept", 4);
        Checks.due("undo(1) of what was kept", x.undo(1), 1);
        Checks.griefs(x, "behind the first deed that was kept", 3);
        Checks.due("undo(0) of what was kept", x.undo(0), 1);
        Checks.griefs(x, "ahead of what was kept", 2);
        x.say(0);
        x.say(0);
        Checks.due("on(0) again", x.on(0), 2);
        Checks.due("undo(1) again", x.undo(1), 1);
        Checks.griefs(x, "what is kept stays as it was", 3);
    }
}
