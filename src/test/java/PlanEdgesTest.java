/** Each sentence on a boundary in promises 15 to 19, and in the terms TAKE, TURN, TUCK, ORDERS, JUDGED. */
public final class PlanEdgesTest {
    private static final int NONE = CenturyBeds.NONE, UNKNOWN = CenturyBeds.UNKNOWN;
    private static final int OUTSIDE = CenturyBeds.OUTSIDE;
    private static final String SIX = "BQ0510Q0520Q0530Q0540Q0550Q0560";

    private static final Due due = new Due("PlanEdgesTest");

    public static void main(String[] args) {
        times();
        fewestTaken();
        likeTaken();
        neverTaken();
        turns();
        turnsAtTheEdges();
        tucks();
        tucksNeeded();
        orders();
        ordersOfNone();
        judgedLength();
        judgedThings();
        judgedInTurn();
        judgedByWhatLies();
        due.end();
    }

    private static void times() {
        due.sentence("TAKE for a SLEEPER and a TIME t (0 to 10)");
        CenturyBeds x = Due.made("BQ0000Q0090S01");
        due.is("toTake(0, 0)", x.toTake(0, 0), 0);
        due.is("toTake(0, 10)", x.toTake(0, 10), 3);
        due.is("toTake(0, -1)", x.toTake(0, -1), OUTSIDE);
        due.is("toTake(0, 11)", x.toTake(0, 11), OUTSIDE);
        due.is("toTake(1, 11)", x.toTake(1, 11), UNKNOWN);
        due.is("toTurn(0, 0)", x.toTurn(0, 0), 0);
        due.is("toTurn(0, 10)", x.toTurn(0, 10), 11);
        due.is("toTurn(0, -1)", x.toTurn(0, -1), OUTSIDE);
        due.is("toTurn(0, 11)", x.toTurn(0, 11), OUTSIDE);
        due.is("toTurn(1, 11)", x.toTurn(1, 11), UNKNOWN);
        due.sentence("TUCK for a SLEEPER and a CENTURY t (0 to 9)");
        due.is("toTuck(0, 0)", x.toTuck(0, 0), 0);
        due.is("toTuck(0, 9)", x.toTuck(0, 9), 10);
        due.is("toTuck(0, 10)", x.toTuck(0, 10), OUTSIDE);
        due.is("toTuck(0, -1)", x.toTuck(0, -1), OUTSIDE);
        due.is("toTuck(1, 10)", x.toTuck(1, 10), UNKNOWN);
        due.is("toTuck, when it is modern already", Due.made("BS01").toTuck(0, 10), OUTSIDE);
        due.sentence("ORDERS for a SLEEPER and t");
        due.is("orders(0, 0, false)", x.orders(0, 0, false), 1);
        due.is("orders(0, 10, false)", x.orders(0, 10, false), 0);
        for (boolean first : new boolean[] {false, true}) {
            due.is("orders(0, -1, ..)", x.orders(0, -1, first), OUTSIDE);
            due.is("orders(0, 11, ..)", x.orders(0, 11, first), OUTSIDE);
            due.is("orders(1, 11, ..)", x.orders(1, 11, first), UNKNOWN);
        }
    }

    private static void fewestTaken() {
        due.sentence("the fewest BLANKETS that lie in THE BED (bits ..) that, TAKEN, let it WAKE in t");
        CenturyBeds x = Due.made(SIX + "S51");
        for (int t = 1; t <= 6; t++) {
            due.is("toTake(0, " + t + ")", x.toTake(0, t), (1 << t - 1) - 1);
        }
        due.is("all six", x.toTake(0, 10), 63);
        // Two of lesser bits (0 and 1) would do it too.
        due.is("the fewest, though not the least", Due.made("BQ0030Q0030Q1130Q0240S03").toTake(0, 4), 4);
        due.is("two sheets, one to take", Due.made("BQ0041Q0051Q0061S01").toTake(0, 6), 3);
        due.is("a mothed one beside a sheet", Due.made("BQ1141Q1153S11").toTake(0, 4), 2);
        due.is("none is needed, none lies", Due.made("BS01").toTake(0, 10), 0);
    }

    private static void likeTaken() {
        due.sentence("of like ones the least");
        // Cells 0, 1, 2 are 1, 2, 9; without blanket 0, as without blanket 1, two of them are 9.
        due.is("one of two", Due.made("BQ0010Q1120Q2290Q0590S03").toTake(0, 9), 1);
        // Blankets 0 and 1, or 0 and 2, leave two cells bare.
        due.is("two of three", Due.made("BQ0110Q2210Q0020S03").toTake(0, 10), 3);
        CenturyBeds x = Due.made("BQ0090Q1190Q0180S02");
        due.is("either one", x.toTake(0, 8), 1);
        x.take(1);
        x.tuck(1);
        due.is("by number, not by where they lie", x.toTake(0, 8), 1);
    }

    private static void neverTaken() {
        due.sentence("TAKE, as bits; NONE.");
        CenturyBeds x = Due.made(SIX + "S51");
        due.is("no such century", x.toTake(0, 0), NONE);
        due.is("no such century", x.toTake(0, 9), NONE);
        x.take(2);
        due.is("it does not lie there", x.toTake(0, 3), NONE);
        due.is("one fewer to take", x.toTake(0, 4), 3);
        due.is("all five", x.toTake(0, 10), 59);
        due.is("none lies", Due.made("BS01").toTake(0, 0), NONE);
    }

    private static void turns() {
        due.sentence("the fewest CELLS by which it would lie elsewhere: 10 more, if on, 20 more, if back, 0 itself");
        CenturyBeds x = Due.made("BQ0512S01");
        for (int t = 2; t <= 6; t++) {
            due.is("on by " + (t - 1), x.toTurn(0, t), 10 + t - 1);
        }
        due.is("itself", x.toTurn(0, 1), 0);
        due.is("never", x.toTurn(0, 7), NONE);
        CenturyBeds y = Due.made("BQ0512S51");
        for (int t = 1; t <= 5; t++) {
            due.is("back by " + (6 - t), y.toTurn(0, t), 20 + 6 - t);
        }
        due.is("itself", y.toTurn(0, 6), 0);
        due.sentence("of like ones on (rather than back)");
        due.is("on", Due.made("BQ1140Q3340S21").toTurn(0, 4), 11);
        due.is("on by two", Due.made("BQ0040Q4440S21").toTurn(0, 4), 12);
        due.is("back is nearer", Due.made("BQ1140Q4440S21").toTurn(0, 4), 21);
        due.is("on is nearer", Due.made("BQ0040Q3340S21").toTurn(0, 4), 11);
        due.sentence("others set aside");
        due.is("onto another", Due.made("BQ1140S01S11").toTurn(0, 4), 11);
        due.is("past another", Due.made("BQ5540S01S13").toTurn(0, 4), 15);
        due.is("when nobody can turn", Due.made("BQ3540S03S33").toTurn(0, 4), 12);
    }

    private static void turnsAtTheEdges() {
        due.sentence("(.. on CELLS)");
        // One that hung over the edge by a cell would lie on two cells of 4, and wake in it.
        due.is("not off the end", Due.made("BQ5540S03").toTurn(0, 4), NONE);
        due.is("not off the beginning", Due.made("BQ0040S33").toTurn(0, 4), NONE);
        due.is("up to the end", Due.made("BQ4540S03").toTurn(0, 4), 13);
        due.is("up to the beginning", Due.made("BQ0140S33").toTurn(0, 4), 23);
        due.is("two wide, up to the end", Due.made("BQ5540S02").toTurn(0, 4), 14);
        due.is("none lies", Due.made("BS01").toTurn(0, 3), NONE);
        due.is("none lies", Due.made("BS01").toTurn(0, 10), 0);
    }

    private static void tucks() {
        due.sentence("the fewest CELLS on which a PLAIN BLANKET of t, TUCKED, must lie");
        for (int p = 0; p < 6; p++) {
            due.is("one wide at " + p, Due.made("BQ0550S" + p + "1").toTuck(0, 9), 10 + p);
        }
        for (int p = 0; p < 5; p++) {
            due.is("two wide at " + p + ", less", Due.made("BQ0550S" + p + "2").toTuck(0, 4), 10 + p);
            due.is("two wide at " + p + ", more", Due.made("BQ0550S" + p + "2").toTuck(0, 6), 20 + p);
        }
        for (int p = 0; p < 4; p++) {
            due.is("three wide at " + p, Due.made("BQ0550S" + p + "3").toTuck(0, 4), 20 + p);
        }
        due.is("modern yields to any", Due.made("BS42").toTuck(0, 9), 14);
        due.is("three of three times", Due.made("BQ0010Q1120Q2230S03").toTuck(0, 9), 20);
        due.sentence("of like ones the first CELL");
        due.is("the first of two", Due.made("BQ0550S42").toTuck(0, 0), 14);
        due.is("the first of three", Due.made("BQ3310Q4420Q5530S33").toTuck(0, 0), 13);
        // Only where it leaves the one cell of 2 can one cell more be enough.
        due.is("not the first, for that one is 2 itself", Due.made("BQ3320Q4450Q5550S33").toTuck(0, 2), 14);
        due.is("not the second, for that leaves 5 and 5", Due.made("BQ3350Q4420Q5550S33").toTuck(0, 2), 13);
        due.is("the other one", Due.made("BQ0010Q1190S02").toTuck(0, 9), 10);
    }

    private static void tucksNeeded() {
        due.sentence("0: none is needed");
        due.is("all cells are", Due.made("BQ0550S03").toTuck(0, 5), 0);
        due.is("most cells are", Due.made("BQ0150S03").toTuck(0, 5), 0);
        due.is("the least of like ones", Due.made("BQ0050Q1160S02").toTuck(0, 5), 0);
        due.is("not the least of like ones", Due.made("BQ0050Q1160S02").toTuck(0, 6), 10);
        due.sentence("the fewest CELLS on which a PLAIN BLANKET of t, TUCKED, must lie");
        due.is("a seventh blanket", Due.made(SIX + "S03").toTuck(0, 0), 20);
        due.is("below a sheet", Due.made("BQ0051S01").toTuck(0, 7), 10);
        due.is("below a quilt, where it is 0", Due.made("BQ0592S02").toTuck(0, 8), 11);
    }

    private static void orders() {
        due.sentence("in how many of all orders in which the BLANKETS that lie in THE BED might lie, each once");
        CenturyBeds x = Due.made(SIX + "S01");
        for (int t = 1; t <= 6; t++) {
            due.is("of 720, " + t, x.orders(0, t, false), 120);
        }
        due.is("all of 720", Due.made("BQ0510Q0510Q0510Q0510Q0510Q0510S33").orders(0, 1, false), 720);
        x.take(5);
        due.is("of 120", x.orders(0, 5, false), 24);
        due.is("what does not lie there", x.orders(0, 6, false), 0);
        due.sentence("the first such (as figures from the lowest on, 1 more each, the least as a number)");
        due.is("of five", x.orders(0, 1, true), 12345);
        due.is("of five", x.orders(0, 5, true), 51234);
        x.tuck(5);
        due.is("whatever order they lie in now", x.orders(0, 1, true), 123456);
        due.is("whatever order they lie in now, how many", x.orders(0, 1, false), 120);
        due.is("the last blanket lowest", x.orders(0, 6, true), 612345);
        x.take(0);
        due.is("without the first one", x.orders(0, 2, true), 23456);
        // The third one must lie below one of the others, so that two cells are 2.
        CenturyBeds two = Due.made("BQ0010Q1110Q0220S03");
        due.is("not the first order of all", two.orders(0, 2, true), 132);
        due.is("all orders but two", two.orders(0, 2, false), 4);
        due.sentence("NONE (of the latter)");
        due.is("none, how many", x.orders(0, 9, false), 0);
        due.is("none, the first", x.orders(0, 9, true), NONE);
        due.is("modern, how many", x.orders(0, 10, false), 0);
        due.is("modern, the first", x.orders(0, 10, true), NONE);
    }

    private static void ordersOfNone() {
        due.sentence("in how many of all orders .. each once");
        CenturyBeds x = Due.made("BQ0510S01");
        due.is("one lies", x.orders(0, 1, false), 1);
        due.is("one lies", x.orders(0, 1, true), 1);
        due.is("one lies", x.orders(0, 10, false), 0);
        x.take(0);
        due.is("none lies: one order", x.orders(0, 10, false), 1);
        due.is("none lies: without figures", x.orders(0, 10, true), 0);
        due.is("none lies", x.orders(0, 1, false), 0);
        due.is("none lies", x.orders(0, 1, true), NONE);
        CenturyBeds sheets = Due.made("BQ0041Q0051S01");
        due.is("two sheets are none in either order", sheets.orders(0, 10, false), 2);
        due.is("the first of them", sheets.orders(0, 10, true), 12);
    }

    private static void judgedLength() {
        due.sentence("n things (1 to 4), told as two figures each; OUTSIDE: n, row (0 or more, 2 n figures at most)");
        CenturyBeds x = Due.made(SIX + "S01");
        int[] longest = {0, 99, 9999, 999999, 99999999};
        for (int n = 1; n <= 4; n++) {
            due.is("the least row of " + n, x.judge(n, 0), NONE);
            due.is("the greatest row of " + n, x.judge(n, longest[n]), 0);
            due.is("one figure more than " + n, x.judge(n, longest[n] + 1), OUTSIDE);
            due.is("below 0, of " + n, x.judge(n, -1), OUTSIDE);
            due.is("the greatest number, of " + n, x.judge(n, Integer.MAX_VALUE), OUTSIDE);
            due.is("the least number, of " + n, x.judge(n, Integer.MIN_VALUE), OUTSIDE);
        }
        due.is("none", x.judge(0, 0), OUTSIDE);
        due.is("five", x.judge(5, 0), OUTSIDE);
        due.is("fewer than none", x.judge(-1, 0), OUTSIDE);
        due.is("fewer figures are nights ahead", x.judge(4, 10), NONE);
        due.is("fewer figures are nights ahead", x.judge(4, 20), 3);
        due.is("fewer figures are nights ahead", x.judge(4, 2010), 2);
        due.is("one figure, of one thing", x.judge(1, 5), 0);
    }

    private static void judgedThings() {
        due.sentence("1 and a BLANKET: TAKEN; 2: LAID; 3: TUCKED; 4 and a SLEEPER: TURNED on; 5: back; 0 and 0: A NIGHT");
        CenturyBeds x = Due.made("BQ0510Q0520S11S41");
        x.take(1);
        // Blanket 0 lies, blanket 1 does not; there are no blankets 2 to 9, no sleepers 2 to 9.
        for (int row = 0; row < 100; row++) {
            boolean can = row == 0 || row == 10 || row == 21 || row == 31
                    || row == 40 || row == 41 || row == 50 || row == 51;
            due.is("judge(1, " + row + ")", x.judge(1, row), can ? NONE : 0);
        }
    }

    private static void judgedInTurn() {
        due.sentence("the place of the first that can not be; NONE: none");
        CenturyBeds x = Due.made("BQ0510Q0520S11S41");
        due.is("the first", x.judge(4, 20101010), 0);
        due.is("the second", x.judge(4, 10101010), 1);
        due.is("the third", x.judge(4, 10202010), 2);
        due.is("the fourth", x.judge(4, 10201021), 3);
        due.is("the fourth", x.judge(4, 10112030), 3);
        due.is("none", x.judge(4, 10112031), NONE);
        due.is("one of two that can not be", x.judge(4, 10999999), 1);
        due.is("each by what came ahead", x.judge(4, 40415040), NONE);
        due.is("up to another", x.judge(4, 40404040), 2);
        due.is("off the bed", x.judge(4, 41414141), 1);
        due.is("off the bed, back", x.judge(3, 505050), 1);
        due.is("nights are always", x.judge(4, 0), NONE);
    }

    private static void judgedByWhatLies() {
        due.sentence("1 and a BLANKET: TAKEN; 2: LAID; 3: TUCKED");
        CenturyBeds x = Due.made(SIX);
        for (int b = 0; b < 6; b++) {
            due.is("taken " + b, x.judge(1, 10 + b), NONE);
            due.is("laid " + b, x.judge(1, 20 + b), 0);
            due.is("tucked " + b, x.judge(1, 30 + b), 0);
            due.is("taken, laid " + b, x.judge(2, 1020 + 101 * b), NONE);
            due.is("taken, tucked, taken, laid " + b, x.judge(4, 10301020 + 1010101 * b), NONE);
            x.take(b);
            due.is("taken already " + b, x.judge(1, 10 + b), 0);
            due.is("laid " + b, x.judge(1, 20 + b), NONE);
            due.is("tucked " + b, x.judge(1, 30 + b), NONE);
            due.is("laid, tucked " + b, x.judge(2, 2030 + 101 * b), 1);
        }
        due.is("nobody", x.judge(1, 40), 0);
        due.is("nobody", x.judge(1, 50), 0);
        CenturyBeds none = new CenturyBeds();
        due.is("in a new object, a night", none.judge(4, 0), NONE);
        for (int row = 10; row < 60; row += 10) {
            due.is("in a new object, " + row, none.judge(2, row), 1);
        }
    }
}
