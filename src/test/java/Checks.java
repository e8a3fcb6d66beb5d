import java.util.function.IntSupplier;

/** What the tests share: counting wrong answers, and making texts and rows. */
final class Checks {
    static final int MOST = Integer.MAX_VALUE, LEAST = Integer.MIN_VALUE;
    static final int NOTHING = 1, BEYOND = 2, UNLIKE = 3, NOUGHT = 4, SIZE = 5;

    private static int wrong = 0;
    private static int asked = 0;
    private static String test = "";

    private Checks() {
    }

    /** What is checked from here on is of this test. */
    static void test(String name) {
        test = name + ": ";
    }

    static void due(String call, long got, long want) {
        asked++;
        if (got != want) {
            wrong++;
            System.out.println(test + call + " answered " + got + ", due is " + want);
        }
    }

    /** A call that answers 1 and tells by asked(). */
    static void told(PartyWill x, String call, long got, long want) {
        due(call, got, 1);
        due(call + ", asked()", x.asked(), want);
    }

    /** A call that answers 1 and tells by upper(), lower(). */
    static void share(PartyWill x, String call, long got, long upper, long lower) {
        due(call, got, 1);
        due(call + ", upper()", x.upper(), upper);
        due(call + ", lower()", x.lower(), lower);
    }

    /** A call that is refused with a finding. */
    static void found(PartyWill x, String call, long got, int finding) {
        due(call, got, PartyWill.FINDING);
        due(call + ", finding()", x.finding(), finding);
    }

    /** A call that is refused, and changes nothing, not even finding(). */
    static void refused(PartyWill x, String call, IntSupplier asking, int want) {
        int finding = x.finding();
        unchanging(x, call, asking, want);
        due(call + ", finding()", x.finding(), finding);
    }

    /** A call that is refused with a finding, and changes nothing but that. */
    static void finds(PartyWill x, String call, IntSupplier asking, int finding) {
        int before = x.findings(finding);
        unchanging(x, call, asking, PartyWill.FINDING);
        due(call + ", finding()", x.finding(), finding);
        due(call + ", findings(" + finding + ")", x.findings(finding), before + 1);
    }

    /** A call that answers so, and leaves all as it was. */
    static void unchanging(PartyWill x, String call, IntSupplier asking, int want) {
        long[] before = {x.digest(), x.asked(), x.upper(), x.lower()};
        due(call, asking.getAsInt(), want);
        long[] behind = {x.digest(), x.asked(), x.upper(), x.lower()};
        for (int k = 0; k < before.length; k++) {
            due(call + " leaves state " + k, behind[k], before[k]);
        }
    }

    static void griefs(PartyWill x, String when, int... griefs) {
        for (int i = 0; i < griefs.length; i++) {
            told(x, "guest(" + i + ", 1) " + when, x.guest(i, 1), griefs[i]);
        }
    }

    static void text(PartyWill x, int t, String signs) {
        x.text(t, signs.length());
        for (int i = 0; i < signs.length(); i++) {
            x.put(t, i, signs.charAt(i));
        }
    }

    static void row(PartyWill x, int r, int... places) {
        x.row(r, places.length);
        for (int i = 0; i < places.length; i++) {
            x.lay(r, i, places[i]);
        }
    }

    static void rowIs(PartyWill x, int r, int... places) {
        for (int i = 0; i < places.length; i++) {
            told(x, "at(" + r + ", " + i + ")", x.at(r, i), places[i]);
        }
        due("at(" + r + ", " + places.length + ")", x.at(r, places.length), PartyWill.FINDING);
    }

    static PartyWill party(String signs) {
        PartyWill x = new PartyWill();
        text(x, 0, signs);
        if (x.party(0) < 0) {
            wrong++;
            System.out.println(test + "party by " + signs + " is refused");
        }
        return x;
    }

    /** Six guests and as many sights as 80 signs hold, two blanks behind. */
    static String longest() {
        StringBuilder signs = new StringBuilder("c54444g0g1g2g3g4g5");
        for (int sight = 0; sight < 20; sight++) {
            int seer = sight / 5;
            int seen = sight % 5;
            signs.append('x').append(seer).append(seen < seer ? seen : seen + 1);
        }
        return signs.append("  ").toString();
    }

    /** Tune 0, until there are so many deeds. */
    static void deeds(PartyWill x, int n) {
        for (int k = x.count(2); k < n; k++) {
            x.tune(0);
        }
    }

    static int[] times(int n, int v) {
        int[] all = new int[n];
        java.util.Arrays.fill(all, v);
        return all;
    }

    static long digestOf(int... all) {
        long h = 17;
        for (int v : all) {
            h = 31 * h + v;
        }
        return h;
    }

    static void end() {
        System.out.println(wrong == 0 ? asked + " answers are as due" : wrong + " answers are not as due");
        if (wrong != 0) {
            System.exit(1);
        }
    }
}
