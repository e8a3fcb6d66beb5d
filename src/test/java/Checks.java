/** What the tests share: counting wrong answers, and making texts and rows. */
final class Checks {
    private static int wrong = 0;
    private static int asked = 0;

    private Checks() {
    }

    static void due(String call, long got, long want) {
        asked++;
        if (got != want) {
            wrong++;
            System.out.println(call + " answered " + got + ", due is " + want);
        }
    }

    /** A call that answers 1 and tells by asked(). */
    static void told(PartyWill x, String call, long got, long want) {
        due(call, got, 1);
        due(call + ", asked()", x.asked(), want);
    }

    /** A call that answers 1 and tells by upper(), lower(). */
    static void share(PartyWill x, String call, long got, long upper, long lower) {
        due(call, got, 1);
        due(call + ", upper()", x.upper(), upper);
        due(call + ", lower()", x.lower(), lower);
    }

    /** A call that is refused with a finding. */
    static void found(PartyWill x, String call, long got, int finding) {
        due(call, got, PartyWill.FINDING);
        due(call + ", finding()", x.finding(), finding);
    }

    static void griefs(PartyWill x, String when, int... griefs) {
        for (int i = 0; i < griefs.length; i++) {
            told(x, "guest(" + i + ", 1) " + when, x.guest(i, 1), griefs[i]);
        }
    }

    static void text(PartyWill x, int t, String signs) {
        x.text(t, signs.length());
        for (int i = 0; i < signs.length(); i++) {
            x.put(t, i, signs.charAt(i));
        }
    }

    static void row(PartyWill x, int r, int... places) {
        x.row(r, places.length);
        for (int i = 0; i < places.length; i++) {
            x.lay(r, i, places[i]);
        }
    }

    static void rowIs(PartyWill x, int r, int... places) {
        for (int i = 0; i < places.length; i++) {
            told(x, "at(" + r + ", " + i + ")", x.at(r, i), places[i]);
        }
        due("at(" + r + ", " + places.length + ")", x.at(r, places.length), PartyWill.FINDING);
    }

    static PartyWill party(String signs) {
        PartyWill x = new PartyWill();
        text(x, 0, signs);
        if (x.party(0) < 0) {
            wrong++;
            System.out.println("party by " + signs + " is refused");
        }
        return x;
    }

    static void end() {
        System.out.println(wrong == 0 ? asked + " answers are as due" : wrong + " answers are not as due");
        if (wrong != 0) {
            System.exit(1);
        }
    }
}
