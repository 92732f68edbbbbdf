/** Promises 6 to 8 and 31: blanket, sleeper, cell, count. */
public final class BedTest {
    private static final Due due = new Due("BedTest");

    public static void main(String[] args) {
        blankets();
        sleepers();
        kinds();
        waking();
        counts();
        due.end();
    }

    private static void blankets() {
        CenturyBeds x = Due.made("BQ0530Q1282Q4571Q3393");
        int[][] told = {{0, 5, 3, 0, 0}, {1, 2, 8, 2, 1}, {4, 5, 7, 1, 2}, {3, 3, 9, 3, 3}};
        for (int b = 0; b < told.length; b++) {
            for (int what = 0; what < 5; what++) {
                due.is("blanket(" + b + ", " + what + ")", x.blanket(b, what), told[b][what]);
            }
        }
        x.take(1);
        due.is("level of a taken one", x.blanket(1, 4), CenturyBeds.NONE);
        due.is("first cell of a taken one", x.blanket(1, 0), 1);
        due.is("level above a taken one", x.blanket(3, 4), 2);
        due.is("blanket(4, 0)", x.blanket(4, 0), CenturyBeds.UNKNOWN);
        due.is("blanket(-1, 0)", x.blanket(-1, 0), CenturyBeds.UNKNOWN);
        due.is("blanket(4, 9)", x.blanket(4, 9), CenturyBeds.UNKNOWN);
        due.is("blanket(0, 5)", x.blanket(0, 5), CenturyBeds.OUTSIDE);
        due.is("blanket(0, -1)", x.blanket(0, -1), CenturyBeds.OUTSIDE);
    }

    private static void sleepers() {
        CenturyBeds x = Due.made("BQ0240S31S02");
        due.is("sleeper(0, 0)", x.sleeper(0, 0), 3);
        due.is("sleeper(0, 1)", x.sleeper(0, 1), 1);
        due.is("sleeper(0, 2)", x.sleeper(0, 2), 10);
        due.is("sleeper(0, 3)", x.sleeper(0, 3), 0);
        due.is("sleeper(1, 0)", x.sleeper(1, 0), 0);
        due.is("sleeper(1, 1)", x.sleeper(1, 1), 2);
        due.is("sleeper(1, 2)", x.sleeper(1, 2), 4);
        x.night();
        x.take(0);
        x.night();
        due.is("woken when modern", x.sleeper(0, 3), 1 << 10);
        due.is("woken in two times", x.sleeper(1, 3), 1 << 10 | 1 << 4);
        due.is("sleeper(2, 0)", x.sleeper(2, 0), CenturyBeds.UNKNOWN);
        due.is("sleeper(-1, 7)", x.sleeper(-1, 7), CenturyBeds.UNKNOWN);
        due.is("sleeper(0, 4)", x.sleeper(0, 4), CenturyBeds.OUTSIDE);
        due.is("sleeper(0, -1)", x.sleeper(0, -1), CenturyBeds.OUTSIDE);
        due.is("cell(0, 2)", x.cell(0, 2), 1);
        due.is("cell(1, 2)", x.cell(1, 2), 1);
        due.is("cell(2, 2)", x.cell(2, 2), CenturyBeds.NONE);
        due.is("cell(3, 2)", x.cell(3, 2), 0);
        due.is("cell(4, 2)", x.cell(4, 2), CenturyBeds.NONE);
    }

    private static void times(String text, int... want) {
        CenturyBeds x = Due.made(text);
        int modern = 0;
        for (int c = 0; c < 6; c++) {
            due.is("cell(" + c + ", 0) of " + text, x.cell(c, 0), want[c]);
            modern |= want[c] == 10 ? 1 << c : 0;
        }
        due.is("count(5) of " + text, x.count(5), modern);
    }

    private static void kinds() {
        times("B", 10, 10, 10, 10, 10, 10);
        times("BQ1330", 10, 3, 3, 3, 10, 10);
        times("BQ0572", 7, 8, 9, 0, 1, 2);
        times("BQ0593", 9, 10, 9, 10, 9, 10);
        times("BQ0541", 4, 4, 4, 4, 4, 4);
        times("BQ0541Q1223", 4, 10, 2, 4, 4, 4);
        times("BQ0541Q3561", 4, 4, 4, 10, 10, 10);
        times("BQ0593Q0520", 9, 2, 9, 2, 9, 2);
        times("BQ0541Q0520", 2, 2, 2, 2, 2, 2);
        times("BQ0250Q0560", 5, 5, 5, 6, 6, 6);
        times("BQ0560Q0250", 6, 6, 6, 6, 6, 6);
        CenturyBeds x = Due.made("BQ0541Q1223");
        due.is("a mothed one lies on odd cells", x.cell(1, 1), 2);
        due.is("cell(3, 1)", x.cell(3, 1), 1);
        x.take(0);
        due.is("none lies", x.cell(3, 1), 0);
        due.is("cell(6, 0)", x.cell(6, 0), CenturyBeds.OUTSIDE);
        due.is("cell(-1, 0)", x.cell(-1, 0), CenturyBeds.OUTSIDE);
        due.is("cell(0, 3)", x.cell(0, 3), CenturyBeds.OUTSIDE);
        due.is("cell(0, -1)", x.cell(0, -1), CenturyBeds.OUTSIDE);
    }

    private static void wakes(String text, int want) {
        due.is("waking of " + text, Due.made(text).sleeper(0, 2), want);
    }

    private static void waking() {
        wakes("BQ0090Q1120S02", 2);
        wakes("BQ0020Q1190S02", 2);
        wakes("BQ0020Q1290S03", 9);
        wakes("BQ0090Q1150Q2270S03", 5);
        wakes("BQ0090S02", 9);
        wakes("BQ0090S03", 10);
        wakes("BQ0582S23", 0);
        wakes("BQ0570S51", 7);
    }

    private static void counts() {
        CenturyBeds x = Due.made("BQ0530Q1282Q4571S02S31");
        due.is("count(0)", x.count(0), 22);
        due.is("count(1)", x.count(1), 3);
        due.is("count(2)", x.count(2), 2);
        due.is("count(3)", x.count(3), 0);
        due.is("count(4)", x.count(4), 123);
        due.is("count(5)", x.count(5), 0);
        due.is("count(6)", x.count(6), 0);
        due.is("count(7)", x.count(7), 0);
        x.take(0);
        x.lay(0);
        x.take(2);
        x.night();
        x.see(0, 1);
        x.see(1, 1);
        due.is("count(1), one taken", x.count(1), 3);
        due.is("count(3), a night", x.count(3), 1);
        due.is("count(4), laid again", x.count(4), 21);
        due.is("count(6), four acts", x.count(6), 4);
        due.is("count(7), two seen", x.count(7), 2);
        x.take(0);
        due.is("count(5), most bare", x.count(5), 57);
        due.is("count(8)", x.count(8), CenturyBeds.OUTSIDE);
        due.is("count(-1)", x.count(-1), CenturyBeds.OUTSIDE);
    }
}
