/** Each sentence on a boundary in promises 6 to 8 and 31, and in the terms COUNTS, TIME, WAKES. */
public final class BedEdgesTest {
    private static final int NONE = CenturyBeds.NONE, UNKNOWN = CenturyBeds.UNKNOWN;
    private static final int OUTSIDE = CenturyBeds.OUTSIDE;

    private static final Due due = new Due("BedEdgesTest");

    public static void main(String[] args) {
        ends();
        plain();
        sheets();
        quilts();
        mothed();
        lowest();
        waking();
        blankets();
        sleepers();
        cells();
        counts();
        countedFigures();
        due.end();
    }

    private static void times(String text, int... want) {
        times(text, Due.made(text), want);
    }

    private static void times(String name, CenturyBeds x, int... want) {
        int modern = 0;
        for (int c = 0; c < 6; c++) {
            due.is("time of cell " + c + ", " + name, x.cell(c, 0), want[c]);
            modern |= want[c] == 10 ? 1 << c : 0;
        }
        due.is("modern cells, " + name, x.count(5), modern);
    }

    private static void ends() {
        due.sentence("a BLANKET on CELLS a to b");
        times("BQ0070", 7, 10, 10, 10, 10, 10);
        times("BQ5570", 10, 10, 10, 10, 10, 7);
        times("BQ1470", 10, 7, 7, 7, 7, 10);
        times("BQ0570", 7, 7, 7, 7, 7, 7);
        due.sentence("CENTURIES 0 to 9");
        times("BQ0500", 0, 0, 0, 0, 0, 0);
        times("BQ0590", 9, 9, 9, 9, 9, 9);
        due.sentence("MODERN: none.");
        times("B", 10, 10, 10, 10, 10, 10);
        CenturyBeds x = Due.made("BQ0570");
        x.take(0);
        times("the only one taken", x, 10, 10, 10, 10, 10, 10);
    }

    private static void plain() {
        due.sentence("PLAIN, QUILT always");
        times("BQ0530Q0540", 3, 3, 3, 3, 3, 3);
        times("BQ0532Q0540", 3, 4, 5, 6, 7, 8);
        times("BQ0501Q0530Q0502", 3, 3, 3, 3, 3, 3);
        times("BQ0501Q0532Q0503", 3, 4, 5, 6, 7, 8);
    }

    private static void sheets() {
        due.sentence("a SHEET, if no other BLANKET lies there");
        times("BQ0541", 4, 4, 4, 4, 4, 4);
        times("a sheet below a plain one: BQ0541Q1120", Due.made("BQ0541Q1120"), 4, 2, 4, 4, 4, 4);
        times("a sheet on a plain one: BQ1120Q0541", Due.made("BQ1120Q0541"), 4, 2, 4, 4, 4, 4);
        times("two sheets: BQ0341Q2551", Due.made("BQ0341Q2551"), 4, 4, 10, 10, 5, 5);
        times("three sheets", Due.made("BQ0541Q0551Q0561"), 10, 10, 10, 10, 10, 10);
        times("a sheet and a mothed one: BQ0541Q0563", Due.made("BQ0541Q0563"), 6, 10, 6, 10, 6, 10);
        times("a mothed one and a sheet: BQ0563Q0541", Due.made("BQ0563Q0541"), 6, 10, 6, 10, 6, 10);
        CenturyBeds x = Due.made("BQ0541Q0551");
        x.take(0);
        times("the other one taken", x, 5, 5, 5, 5, 5, 5);
        x.lay(0);
        times("and laid again", x, 10, 10, 10, 10, 10, 10);
    }

    private static void quilts() {
        due.sentence("a QUILT's that and the CELL (less 10, if it is 10 or more)");
        times("BQ0502", 0, 1, 2, 3, 4, 5);
        times("BQ0542", 4, 5, 6, 7, 8, 9);
        times("BQ0552", 5, 6, 7, 8, 9, 0);
        times("BQ0592", 9, 0, 1, 2, 3, 4);
        times("it is the cell, not how far from its first: BQ4572", Due.made("BQ4572"), 10, 10, 10, 10, 1, 2);
        due.is("its own century stays", Due.made("BQ0592").blanket(0, 2), 9);
        due.sentence("of others that");
        times("BQ0590", 9, 9, 9, 9, 9, 9);
        times("BQ0591", 9, 9, 9, 9, 9, 9);
    }

    private static void mothed() {
        due.sentence("a MOTHED one on CELLS 0, 2, 4");
        times("BQ0583", 8, 10, 8, 10, 8, 10);
        times("BQ1183", 10, 10, 10, 10, 10, 10);
        times("BQ5583", 10, 10, 10, 10, 10, 10);
        times("BQ4483", 10, 10, 10, 10, 8, 10);
        times("another one shows: BQ0583Q0520", Due.made("BQ0583Q0520"), 8, 2, 8, 2, 8, 2);
        times("two of them", Due.made("BQ0583Q0573"), 8, 10, 8, 10, 8, 10);
        due.is("it lies there though it does not count", Due.made("BQ0583").cell(5, 1), 1);
    }

    private static void lowest() {
        due.sentence("the CENTURY there of the lowest BLANKET that COUNTS there");
        CenturyBeds x = Due.made("BQ0583Q0520Q0570");
        times("a mothed one lowest", x, 8, 2, 8, 2, 8, 2);
        x.take(1);
        x.lay(1);
        times("the other one lower", x, 8, 7, 8, 7, 8, 7);
        x.take(1);
        x.tuck(1);
        times("tucked below all", x, 2, 2, 2, 2, 2, 2);
        times("six, the lowest of each cell", Due.made("BQ5500Q4510Q3520Q2530Q1540Q0550"), 5, 4, 3, 2, 1, 0);
        times("six, the first hides all", Due.made("BQ0550Q1540Q2530Q3520Q4510Q5500"), 5, 5, 5, 5, 5, 5);
    }

    private static void wakes(String text, int want) {
        due.is("waking of " + text, Due.made(text).sleeper(0, 2), want);
    }

    private static void waking() {
        due.sentence("a SLEEPER in the TIME that most of its CELLS are");
        wakes("BQ0050S01", 5);
        wakes("BQ5550S51", 5);
        wakes("BQ0090Q1100Q2290S03", 9);
        wakes("BQ0000S03", 10);
        wakes("BQ3450S33", 5);
        due.sentence("of like ones in the least");
        wakes("BQ0010Q1100S02", 0);
        wakes("BQ0000Q1110S02", 0);
        wakes("BQ1190S02", 9);
        wakes("BQ0090S02", 9);
        wakes("BQ0090Q1180Q2270S03", 7);
        wakes("BQ0070Q1180Q2290S03", 7);
        wakes("BQ0090Q1170Q2280S03", 7);
        wakes("BQ0090Q2280S03", 8);
        wakes("BS33", 10);
        due.sentence("a QUILT's that and the CELL (less 10, if it is 10 or more)");
        wakes("BQ0592S02", 0);
        wakes("BQ0582S13", 0);
        wakes("BQ0552S33", 0);
    }

    private static void blankets() {
        CenturyBeds x = Due.made("BQ0500Q5593Q1271Q3482Q0010Q2223");
        int[][] told = {{0, 5, 0, 0}, {5, 5, 9, 3}, {1, 2, 7, 1}, {3, 4, 8, 2}, {0, 0, 1, 0}, {2, 2, 2, 3}};
        due.sentence("Of a BLANKET its first CELL (what = 0), its last (1), CENTURY (2), KIND (3)");
        for (int b = 0; b < 6; b++) {
            for (int what = 0; what < 4; what++) {
                due.is("blanket(" + b + ", " + what + ")", x.blanket(b, what), told[b][what]);
            }
        }
        due.sentence("how many lie below it (4 ..)");
        for (int b = 0; b < 6; b++) {
            due.is("blanket(" + b + ", 4)", x.blanket(b, 4), b);
        }
        due.sentence("NONE: it does not lie there");
        x.take(0);
        due.is("taken", x.blanket(0, 4), NONE);
        for (int what = 0; what < 4; what++) {
            due.is("taken, but what it is stays", x.blanket(0, what), told[0][what]);
        }
        due.is("above the taken one", x.blanket(1, 4), 0);
        due.is("the top one", x.blanket(5, 4), 4);
        x.tuck(0);
        due.is("tucked", x.blanket(0, 4), 0);
        due.is("above the tucked one", x.blanket(5, 4), 5);
        x.take(0);
        x.lay(0);
        due.is("laid", x.blanket(0, 4), 5);
        due.sentence("UNKNOWN; OUTSIDE.");
        due.is("blanket(5, 4)", x.blanket(5, 4), 4);
        due.is("blanket(6, 4)", x.blanket(6, 4), UNKNOWN);
        due.is("blanket(-1, 4)", x.blanket(-1, 4), UNKNOWN);
        due.is("blanket(5, 5)", x.blanket(5, 5), OUTSIDE);
        due.is("blanket(5, -1)", x.blanket(5, -1), OUTSIDE);
        due.is("blanket(6, 5)", x.blanket(6, 5), UNKNOWN);
    }

    private static void sleepers() {
        CenturyBeds x = Due.made("BQ0100S51S22S02");
        int[][] told = {{5, 1, 10, 0}, {2, 2, 10, 0}, {0, 2, 0, 0}};
        due.sentence("Of a SLEEPER its first CELL (what = 0), how wide (1), the TIME in which it WAKES now (2)");
        for (int s = 0; s < 3; s++) {
            for (int what = 0; what < 4; what++) {
                due.is("sleeper(" + s + ", " + what + ")", x.sleeper(s, what), told[s][what]);
            }
        }
        due.is("the widest", Due.made("BS33").sleeper(0, 1), 3);
        due.sentence("TIMES in which it has woken (3: bits)");
        x.night();
        due.is("woken when modern: bit 10", x.sleeper(0, 3), 1024);
        due.is("woken in century 0: bit 0", x.sleeper(2, 3), 1);
        x.night();
        due.is("the same time again", x.sleeper(2, 3), 1);
        x.take(0);
        due.is("wakes now", x.sleeper(2, 2), 10);
        due.is("has not woken since", x.sleeper(2, 3), 1);
        x.night();
        due.is("woken in both", x.sleeper(2, 3), 1025);
        due.sentence("UNKNOWN; OUTSIDE.");
        due.is("sleeper(3, 0)", x.sleeper(3, 0), UNKNOWN);
        due.is("sleeper(-1, 0)", x.sleeper(-1, 0), UNKNOWN);
        due.is("sleeper(2, 4)", x.sleeper(2, 4), OUTSIDE);
        due.is("sleeper(2, -1)", x.sleeper(2, -1), OUTSIDE);
        due.is("sleeper(3, 4)", x.sleeper(3, 4), UNKNOWN);
    }

    private static void cells() {
        CenturyBeds x = Due.made("BQ0510Q0521Q0532Q0543Q0550Q1460S02S23S51");
        due.sentence("how many BLANKETS lie there (1)");
        int[] many = {5, 6, 6, 6, 6, 5};
        for (int c = 0; c < 6; c++) {
            due.is("cell(" + c + ", 1)", x.cell(c, 1), many[c]);
        }
        due.sentence("who sleeps there (2; NONE)");
        int[] who = {0, 0, 1, 1, 1, 2};
        for (int c = 0; c < 6; c++) {
            due.is("cell(" + c + ", 2)", x.cell(c, 2), who[c]);
        }
        CenturyBeds y = Due.made("BS22");
        int[] alone = {NONE, NONE, 0, 0, NONE, NONE};
        for (int c = 0; c < 6; c++) {
            due.is("alone, cell(" + c + ", 2)", y.cell(c, 2), alone[c]);
        }
        due.sentence("OUTSIDE.");
        for (int what = -1; what <= 3; what++) {
            due.is("cell(-1, " + what + ")", x.cell(-1, what), OUTSIDE);
            due.is("cell(6, " + what + ")", x.cell(6, what), OUTSIDE);
        }
        due.is("cell(0, -1)", x.cell(0, -1), OUTSIDE);
        due.is("cell(5, 3)", x.cell(5, 3), OUTSIDE);
    }

    private static void counts() {
        CenturyBeds x = States.made(States.FULL_UP);
        due.sentence("0 letters of THE TEXT");
        due.is("full", x.count(0), 44);
        due.sentence("1 BLANKETS, 2 SLEEPERS");
        due.is("blankets", x.count(1), 6);
        due.is("sleepers", x.count(2), 3);
        due.sentence("3 THE NIGHT");
        due.is("nights", x.count(3), 6);
        due.sentence("6 ACTS in the row");
        due.is("full", x.count(6), 14);
        due.sentence("7 SEEN");
        due.is("full", x.count(7), 6);
        due.sentence("OUTSIDE.");
        due.is("count(8)", x.count(8), OUTSIDE);
        due.is("count(-1)", x.count(-1), OUTSIDE);
    }

    private static void countedFigures() {
        due.sentence("4 BLANKETS that lie in THE BED (as figures from the lowest on, 1 more each)");
        CenturyBeds x = Due.made("BQ0000Q0000Q0000Q0000Q0000Q0000");
        due.is("all six", x.count(4), 123456);
        for (int b = 0; b < 5; b++) {
            x.take(b);
            x.tuck(b);
        }
        due.is("the other way round", x.count(4), 543216);
        x.take(5);
        x.tuck(5);
        due.is("the other way round", x.count(4), 654321);
        for (int b = 5; b > 0; b--) {
            x.take(b);
        }
        due.is("one", x.count(4), 1);
        x.take(0);
        due.is("none", x.count(4), 0);
        due.is("taken ones are BLANKETS still", x.count(1), 6);
        due.sentence("5 CELLS that are MODERN (bits)");
        due.is("all", x.count(5), 63);
        due.is("none", Due.made("BQ0500").count(5), 0);
        due.is("the first", Due.made("BQ1500").count(5), 1);
        due.is("the last", Due.made("BQ0400").count(5), 32);
    }
}
