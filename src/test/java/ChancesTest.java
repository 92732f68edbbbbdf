/** Promises 24 to 28: share, rests, kicked, seed, weeks. */
public final class ChancesTest {
    private static final Due due = new Due("ChancesTest");

    public static void main(String[] args) {
        shares();
        rests();
        kicks();
        weeks();
        due.end();
    }

    private static void share(CenturyBeds x, int blanket, int above, int below) {
        due.is("share(" + blanket + ", true)", x.share(blanket, true), above);
        due.is("share(" + blanket + ", false)", x.share(blanket, false), below);
    }

    private static void shares() {
        CenturyBeds x = Due.made("BQ0530Q0240");
        share(x, 0, 9, 2);
        share(x, 1, 3, 2);
        x.take(0);
        share(x, 0, 0, 1);
        share(x, 1, 3, 1);
        share(x, 2, CenturyBeds.UNKNOWN, CenturyBeds.UNKNOWN);
        share(x, -1, CenturyBeds.UNKNOWN, CenturyBeds.UNKNOWN);
        CenturyBeds sheets = Due.made("BQ0041Q0051");
        share(sheets, 0, 0, 1);
        CenturyBeds harm = Due.made("BQ1141Q1153");
        share(harm, 0, 1, 2);
        share(harm, 1, -1, 2);
        CenturyBeds three = Due.made("BQ0010Q0020Q0030");
        share(three, 1, 1, 3);
        CenturyBeds bare = Due.made("BQ1153");
        share(bare, 0, 0, 1);
        CenturyBeds six = Due.made("BQ0010Q0010Q0010Q0010Q0010Q0510");
        share(six, 0, 1, 6);
        share(six, 5, 31, 6);
    }

    private static void rests() {
        CenturyBeds x = Due.made("BQ0010Q5590S01S11S21");
        due.is("each its own place", x.rests(0, 1, 1, 9, 0), 1);
        due.is("each its own place", x.rests(0, 1, 1, 9, 1), 5);
        due.is("the other way round", x.rests(1, 0, 9, 1, 1), 50);
        due.is("both would lie there", x.rests(0, 2, 1, 1, 1), 0);
        due.is("both would lie there, at a price", x.rests(0, 2, 1, 1, 0), 1);
        CenturyBeds y = Due.made("BQ0060Q5580S01S11");
        due.is("far enough to flee", y.rests(0, 1, 6, 6, 0), 2);
        due.is("far enough to flee", y.rests(0, 1, 6, 6, 1), 5);
        // Elsewhere it is 5 off, which sharing costs too: all pairs with cell 0 in them are at rest.
        due.is("as dear to share as to flee", Due.made("BQ0010Q1560S01S11").rests(0, 1, 1, 1, 0), 11);
        due.is("dearer to flee", Due.made("BQ0010Q1570S01S11").rests(0, 1, 1, 1, 0), 1);
        CenturyBeds z = Due.made("BS03S33");
        // Apart (0, 3), (3, 0), or so that neither gets away by itself: (1, 1), (1, 2), (2, 1), (2, 2).
        due.is("each in the other's way", z.rests(0, 1, 0, 0, 0), 6);
        int unknown = CenturyBeds.UNKNOWN;
        int out = CenturyBeds.OUTSIDE;
        due.is("one unknown", x.rests(3, 0, 0, 0, 0), unknown);
        due.is("other unknown", x.rests(0, 3, 99, 0, 9), unknown);
        due.is("other unknown", x.rests(0, -1, 0, 0, 0), unknown);
        due.is("both unknown and one", x.rests(7, 7, 0, 0, 0), unknown);
        due.is("both are one", x.rests(1, 1, 0, 0, 0), out);
        due.is("t", x.rests(0, 1, 11, 0, 0), out);
        due.is("t", x.rests(0, 1, -1, 0, 0), out);
        due.is("u", x.rests(0, 1, 0, 11, 0), out);
        due.is("u", x.rests(0, 1, 0, -1, 0), out);
        due.is("what", x.rests(0, 1, 0, 0, 2), out);
        due.is("what", x.rests(0, 1, 0, 0, -1), out);
    }

    private static void kicked(CenturyBeds x, int t, int tenths, int above, int below) {
        String call = "kicked(0, " + t + ", " + tenths + ", ";
        due.is(call + "true)", x.kicked(0, t, tenths, true), above);
        due.is(call + "false)", x.kicked(0, t, tenths, false), below);
    }

    private static void kicks() {
        CenturyBeds x = Due.made("BQ0530Q0540S01");
        kicked(x, 3, 3, 7, 10);
        kicked(x, 4, 3, 21, 100);
        kicked(x, 10, 3, 9, 100);
        kicked(x, 5, 3, 0, 1);
        kicked(x, 3, 0, 1, 1);
        kicked(x, 4, 0, 0, 1);
        kicked(x, 10, 10, 1, 1);
        kicked(x, 3, 5, 1, 2);
        x.take(0);
        kicked(x, 4, 1, 9, 10);
        kicked(x, 3, 1, 0, 1);
        CenturyBeds y = Due.made("BQ0510Q0520Q0530Q0540Q0550Q0560S01");
        kicked(y, 6, 7, 50421, 1000000);
        kicked(y, 1, 7, 3, 10);
        due.is("unknown ahead of outside", x.kicked(1, 11, 11, false), CenturyBeds.UNKNOWN);
        for (boolean upper : new boolean[] {true, false}) {
            due.is("t 11", x.kicked(0, 11, 0, upper), CenturyBeds.OUTSIDE);
            due.is("t -1", x.kicked(0, -1, 0, upper), CenturyBeds.OUTSIDE);
            due.is("x 11", x.kicked(0, 0, 11, upper), CenturyBeds.OUTSIDE);
            due.is("x -1", x.kicked(0, 0, -1, upper), CenturyBeds.OUTSIDE);
        }
    }

    private static void weeks() {
        CenturyBeds x = Due.made("BQ0530S01S51");
        due.is("seed at first", x.seed(Long.MIN_VALUE), 0);
        due.is("seed", x.seed(-5), Long.MIN_VALUE);
        due.is("weeks(0)", x.weeks(0), CenturyBeds.OUTSIDE);
        due.is("weeks(31)", x.weeks(31), CenturyBeds.OUTSIDE);
        due.is("seed stays when refused", x.seed(0), -5);
        x.weeks(1);
        due.is("the seed steps", x.seed(0), 1442695040888963407L);
        x.weeks(2);
        due.is("the seed steps", x.seed(0), 1442695040888963407L * 6364136223846793005L + 1442695040888963407L);
        due.is("nothing changes", x.count(4), 1);
        due.is("nothing changes", x.count(6), 0);
        due.is("nothing changes", x.count(3), 0);
        due.is("nothing changes", x.sleeper(0, 3), 0);
        CenturyBeds bare = Due.made("BS01S51");
        due.is("bare weeks", bare.weeks(30), 600);
        drawnWeeks();
    }

    // The draws of these seeds were worked out apart from the class.
    private static void drawnWeeks() {
        CenturyBeds x = Due.made("BQ0530Q0540S01");
        x.seed(205);
        due.is("0 taken, twice; 1 tucked; 0 laid", x.weeks(4), 4 * 4);
        x.seed(285);
        due.is("0 taken, laid, tucked; 1 laid", x.weeks(4), 4 * 4);
        x.take(1);
        x.seed(156);
        due.is("0 taken; 1 tucked; 0 taken; 1 laid", x.weeks(4), 10 + 3 * 4);
        x.seed(117);
        due.is("1 tucked; 0 taken; 1 laid, twice", x.weeks(4), 4 * 4);
        due.is("nothing lies otherwise", x.count(4), 1);
    }
}
