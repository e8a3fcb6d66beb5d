/** Promises 2 to 7: rows. */
public final class RowsTest {
    private static final int MOST = Integer.MAX_VALUE, LEAST = Integer.MIN_VALUE;

    public static void main(String[] args) {
        rows();
        placesOfRows();
        tearing();
        copying();
        copyingRefused();
        means();
        Checks.end();
    }

    private static void rows() {
        PartyWill x = new PartyWill();
        Checks.due("row(0, 40)", x.row(0, 40), 40);
        Checks.due("row(5, 0)", x.row(5, 0), 0);
        Checks.due("row(0, 41)", x.row(0, 41), PartyWill.BAD);
        Checks.due("row(-1, 1)", x.row(-1, 1), PartyWill.BAD);
        Checks.due("row(6, 1)", x.row(6, 1), PartyWill.BAD);
        Checks.due("row(6, -1)", x.row(6, -1), PartyWill.BAD);
        Checks.due("finding() behind BAD", x.finding(), 0);
        Checks.found(x, "row(1, -1)", x.row(1, -1), 5);
        Checks.found(x, "row(1, least)", x.row(1, LEAST), 5);
        Checks.due("row(1, most)", x.row(1, MOST), PartyWill.BAD);
        Checks.due("count(7)", x.count(7), 2);
        Checks.row(x, 2, 7, 8, 9);
        Checks.due("row(2, 2)", x.row(2, 2), 2);
        Checks.rowIs(x, 2, 0, 0);
        Checks.due("row(2, 3)", x.row(2, 3), 3);
        Checks.rowIs(x, 2, 0, 0, 0);
    }

    private static void placesOfRows() {
        PartyWill x = new PartyWill();
        x.row(0, 3);
        Checks.told(x, "lay(0, 2, most)", x.lay(0, 2, MOST), 0);
        Checks.told(x, "lay(0, 2, -5)", x.lay(0, 2, -5), MOST);
        Checks.told(x, "at(0, 2)", x.at(0, 2), -5);
        Checks.due("lay(-1, 0, 0)", x.lay(-1, 0, 0), PartyWill.BAD);
        Checks.due("lay(6, 0, 0)", x.lay(6, 0, 0), PartyWill.BAD);
        Checks.due("at(-1, 0)", x.at(-1, 0), PartyWill.BAD);
        Checks.due("at(6, 0)", x.at(6, 0), PartyWill.BAD);
        Checks.found(x, "lay(1, 0, 0)", x.lay(1, 0, 0), 1);
        Checks.found(x, "lay(0, 3, 0)", x.lay(0, 3, 0), 2);
        Checks.found(x, "at(1, 9)", x.at(1, 9), 1);
        Checks.found(x, "at(0, -1)", x.at(0, -1), 2);
        Checks.found(x, "at(0, 3)", x.at(0, 3), 2);
        Checks.due("asked() behind refusals", x.asked(), -5);
        Checks.rowIs(x, 0, 0, 0, -5);
    }

    private static void tearing() {
        PartyWill x = new PartyWill();
        x.row(3, 2);
        Checks.due("tear(3)", x.tear(3), 1);
        Checks.found(x, "tear(3) again", x.tear(3), 1);
        Checks.found(x, "at(3, 0) when torn", x.at(3, 0), 1);
        Checks.due("tear(6)", x.tear(6), PartyWill.BAD);
        Checks.due("tear(-1)", x.tear(-1), PartyWill.BAD);
        Checks.due("count(7)", x.count(7), 0);
    }

    private static void copying() {
        PartyWill x = new PartyWill();
        Checks.row(x, 0, 1, 2, 3, 4, 5);
        x.row(1, 3);
        Checks.due("copy(0, 1, 1, 0, 3)", x.copy(0, 1, 1, 0, 3), 1);
        Checks.rowIs(x, 1, 2, 3, 4);
        Checks.due("copy(0, 0, 0, 1, 4)", x.copy(0, 0, 0, 1, 4), 1);
        Checks.rowIs(x, 0, 1, 1, 2, 3, 4);
        Checks.due("copy(0, 1, 0, 0, 4)", x.copy(0, 1, 0, 0, 4), 1);
        Checks.rowIs(x, 0, 1, 2, 3, 4, 4);
        Checks.due("copy(0, 5, 1, 3, 0)", x.copy(0, 5, 1, 3, 0), 1);
        Checks.rowIs(x, 1, 2, 3, 4);
    }

    private static void copyingRefused() {
        PartyWill x = new PartyWill();
        x.row(0, 5);
        x.row(1, 3);
        Checks.due("copy(6, ..)", x.copy(6, 0, 1, 0, -1), PartyWill.BAD);
        Checks.due("copy(.., -1, ..)", x.copy(0, 0, -1, 0, 1), PartyWill.BAD);
        Checks.found(x, "copy n -1, missing", x.copy(2, 0, 1, 0, -1), 5);
        Checks.found(x, "copy from none", x.copy(2, 0, 1, 9, 1), 1);
        Checks.found(x, "copy to none", x.copy(1, 9, 2, 0, 1), 1);
        Checks.found(x, "copy too many", x.copy(0, 3, 1, 0, 3), 2);
        Checks.found(x, "copy too many there", x.copy(0, 0, 1, 1, 3), 2);
        Checks.found(x, "copy none from 6", x.copy(0, 6, 1, 0, 0), 2);
        Checks.found(x, "copy none to 4", x.copy(0, 0, 1, 4, 0), 2);
        Checks.found(x, "copy none from -1", x.copy(0, -1, 1, 0, 0), 2);
        Checks.found(x, "copy none to -1", x.copy(0, 0, 1, -1, 0), 2);
        Checks.found(x, "copy most", x.copy(0, MOST, 1, MOST, MOST), 2);
        Checks.found(x, "copy from least", x.copy(0, LEAST, 1, 0, MOST), 2);
    }

    private static void means() {
        PartyWill x = new PartyWill();
        Checks.row(x, 0, 1, 2, 5);
        Checks.told(x, "mean of 1 2 5", x.mean(0), 2);
        Checks.row(x, 0, -1, -2, -5);
        Checks.told(x, "mean of -1 -2 -5", x.mean(0), -2);
        Checks.row(x, 0, MOST, MOST, MOST);
        Checks.told(x, "mean of most", x.mean(0), MOST);
        Checks.row(x, 0, LEAST, LEAST, LEAST);
        Checks.told(x, "mean of least", x.mean(0), LEAST);
        x.row(1, 0);
        Checks.found(x, "mean of none", x.mean(1), 4);
        Checks.found(x, "mean of a missing row", x.mean(2), 1);
        Checks.due("mean(6)", x.mean(6), PartyWill.BAD);
        Checks.due("mean(-1)", x.mean(-1), PartyWill.BAD);
        Checks.due("asked() behind refusals", x.asked(), LEAST);
    }
}
