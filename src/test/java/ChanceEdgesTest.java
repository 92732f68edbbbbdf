import java.math.BigInteger;

/** Each sentence on a boundary in promises 24 to 28: FRACTIONS, SHARE, RESTS, KICKED, THE SEED, WEEKS. */
public final class ChanceEdgesTest {
    private static final int UNKNOWN = CenturyBeds.UNKNOWN, OUTSIDE = CenturyBeds.OUTSIDE;
    private static final String SIX = "BQ0510Q0520Q0530Q0540Q0550Q0560";

    private static final Due due = new Due("ChanceEdgesTest");

    public static void main(String[] args) {
        refusedFractions();
        sharesOfNone();
        sharesBelowNone();
        leastTerms();
        sharesTogether();
        restsRefused();
        restsOnBareBeds();
        restsByLoss();
        kickedByNone();
        kickedByAll();
        kickedOfNone();
        kickedSmall();
        chancesTogether();
        seeds();
        howManyWeeks();
        seedWraps();
        weeksAreActs();
        due.end();
    }

    private static void share(CenturyBeds x, int blanket, int above, int below) {
        due.is("above, share of " + blanket, x.share(blanket, true), above);
        due.is("below, share of " + blanket, x.share(blanket, false), below);
    }

    private static void kicked(CenturyBeds x, int t, int tenths, int above, int below) {
        due.is("above, kicked(0, " + t + ", " + tenths + ")", x.kicked(0, t, tenths, true), above);
        due.is("below, kicked(0, " + t + ", " + tenths + ")", x.kicked(0, t, tenths, false), below);
    }

    private static void refusedFractions() {
        due.sentence("refusals of them are told likewise");
        CenturyBeds x = Due.made("BQ0510S01");
        share(x, 1, UNKNOWN, UNKNOWN);
        share(x, -1, UNKNOWN, UNKNOWN);
        kicked(x, 11, 0, OUTSIDE, OUTSIDE);
        kicked(x, -1, 0, OUTSIDE, OUTSIDE);
        kicked(x, 0, 11, OUTSIDE, OUTSIDE);
        kicked(x, 0, -1, OUTSIDE, OUTSIDE);
        for (boolean upper : new boolean[] {true, false}) {
            due.is("kicked, nobody", x.kicked(1, 0, 0, upper), UNKNOWN);
            due.is("kicked, nobody", x.kicked(-1, 11, 11, upper), UNKNOWN);
        }
    }

    // ---- SHARE

    private static void sharesOfNone() {
        due.sentence("0, if it does not lie there");
        CenturyBeds x = Due.made("BQ0510Q0520");
        x.take(0);
        share(x, 0, 0, 1);
        share(x, 1, 6, 1);
        x.take(1);
        share(x, 1, 0, 1);
        x.lay(0);
        share(x, 0, 6, 1);
        due.sentence("below (1 and more)");
        share(Due.made("BQ5510"), 0, 1, 1);
        share(Due.made("BQ5513"), 0, 0, 1);
        share(Due.made("BQ0541Q0551"), 0, 0, 1);
    }

    private static void sharesBelowNone() {
        due.sentence("by how many in the mean the CELLS that are not MODERN are more");
        CenturyBeds x = Due.made("BQ0541Q1153");
        share(x, 0, 11, 2);
        share(x, 1, -1, 2);
        // Only behind the sheet, and ahead of the other, does a mothed one make cell 1 modern.
        CenturyBeds y = Due.made("BQ1141Q1153Q1163");
        share(y, 0, 1, 3);
        share(y, 1, -1, 6);
        share(y, 2, -1, 6);
        CenturyBeds z = Due.made("BQ0541Q1113Q3313Q5513");
        share(z, 0, 9, 2);
        share(z, 1, -1, 2);
        share(z, 3, -1, 2);
    }

    private static void leastTerms() {
        due.sentence("FRACTIONS are told above (upper = true), below (1 and more), in least terms");
        CenturyBeds all = Due.made(SIX);
        for (int b = 0; b < 6; b++) {
            share(all, b, 1, 1);
        }
        CenturyBeds four = Due.made("BQ0010Q0010Q0010Q0010");
        share(four, 2, 1, 4);
        CenturyBeds five = Due.made("BQ0110Q0010Q0010Q0010Q0010");
        share(five, 0, 6, 5);
        share(five, 4, 1, 5);
        CenturyBeds half = Due.made("BQ0030Q0140");
        share(half, 0, 1, 2);
        share(half, 1, 3, 2);
        kicked(Due.made("BQ0010S01"), 1, 5, 1, 2);
        kicked(Due.made("BQ0010S01"), 1, 6, 2, 5);
        kicked(Due.made("BQ0010S01"), 10, 6, 3, 5);
        kicked(Due.made("BQ0010Q0020S01"), 2, 5, 1, 4);
    }

    private static void sharesTogether() {
        due.sentence("in each order as likely");
        String[] beds = {SIX, "BQ0541Q0551Q1133Q2532Q4430Q0283", "BQ0541Q0541Q0541Q0541Q0541Q0541",
            "BQ1113Q1111Q3313Q3311Q5513Q5511", "BQ0302Q2511Q1423"};
        for (String bed : beds) {
            CenturyBeds x = Due.made(bed);
            // Whatever the order, those that come make all cells that are not modern in the end.
            int sum = 0;
            for (int b = 0; b < x.count(1); b++) {
                int below = x.share(b, false);
                due.is("720 by what is below, " + bed, below < 1 ? -1 : 720 % below, 0);
                sum += below < 1 ? 0 : x.share(b, true) * (720 / below);
            }
            due.is("shares together, " + bed, sum, 720 * (6 - Integer.bitCount(x.count(5))));
        }
    }

    // ---- RESTS

    private static void restsRefused() {
        due.sentence("UNKNOWN: both; OUTSIDE: both are one, t, u, what.");
        CenturyBeds x = Due.made("BS01S11");
        due.is("the one", x.rests(2, 0, 0, 0, 0), UNKNOWN);
        due.is("the other", x.rests(0, 2, 0, 0, 0), UNKNOWN);
        due.is("the one", x.rests(-1, 0, 0, 0, 0), UNKNOWN);
        due.is("the other", x.rests(0, -1, 0, 0, 0), UNKNOWN);
        due.is("both, though they are one", x.rests(2, 2, 0, 0, 0), UNKNOWN);
        due.is("the other, and all else", x.rests(0, 2, 11, 11, 2), UNKNOWN);
        due.is("both are one", x.rests(0, 0, 0, 0, 0), OUTSIDE);
        due.is("both are one", x.rests(1, 1, 10, 10, 1), OUTSIDE);
        int[][] outside = {{-1, 0, 0}, {11, 0, 0}, {0, -1, 0}, {0, 11, 0}, {0, 0, -1}, {0, 0, 2}};
        for (int[] w : outside) {
            due.is("t, u, what: " + w[0] + ", " + w[1] + ", " + w[2], x.rests(0, 1, w[0], w[1], w[2]), OUTSIDE);
        }
        due.is("one sleeper alone", Due.made("BS01").rests(0, 1, 0, 0, 0), UNKNOWN);
    }

    private static void rests(String text, int t, int u, int many, int first) {
        CenturyBeds x = Due.made(text);
        String call = text + ", rests(0, 1, " + t + ", " + u + ", ";
        due.is(call + "0)", x.rests(0, 1, t, u, 0), many);
        due.is(call + "1)", x.rests(0, 1, t, u, 1), first);
    }

    private static void restsOnBareBeds() {
        due.sentence("each chooses from which CELL on it lies (all CELLS)");
        rests("BS01S11", 10, 10, 30, 1);
        rests("BS01S11", 0, 0, 30, 1);
        rests("BS01S11", 0, 10, 30, 1);
        rests("BS02S21", 10, 10, 20, 2);
        rests("BS01S22", 10, 10, 20, 1);
        rests("BS02S22", 10, 10, 12, 2);
        rests("BS03S32", 10, 10, 6, 3);
        rests("BS02S33", 10, 10, 6, 2);
        // Two that lie in the middle can neither get away alone: (1, 1), (1, 2), (2, 1), (2, 2).
        rests("BS03S33", 10, 10, 6, 3);
        // From cell 4 on the wider one would find 3, did it not hang off the bed there.
        rests("BQ0000Q1190Q2200Q3490Q5530S01S13", 0, 0, 1, 50);
        rests("BQ0000Q1190Q2200Q3490Q5530S13S01", 0, 0, 1, 5);
        due.sentence("RESTS of two SLEEPERS");
        due.is("a third one is in nobody's way", Due.made("BS01S11S21").rests(0, 1, 10, 10, 0), 30);
        due.is("nor any of three", Due.made("BS01S11S21").rests(2, 0, 10, 10, 1), 1);
    }

    private static void restsByLoss() {
        due.sentence("each loses by how much the TIME in which it WAKES is from its own one (t, u)");
        rests("BQ0000Q1590S01S51", 0, 9, 5, 1);
        rests("BQ5500Q0490S01S51", 0, 9, 5, 50);
        rests("BQ0592S01S51", 9, 4, 1, 5);
        rests("BQ0592S01S51", 4, 9, 1, 50);
        due.sentence("and 5, if they lie on one CELL");
        // Both would lie on cell 0; elsewhere it is 4, 5, 6 off: better, as good, worse than to share it.
        rests("BQ0020Q1560S01S51", 2, 2, 10, 1);
        rests("BQ0020Q1570S01S51", 2, 2, 11, 0);
        rests("BQ0020Q1580S01S51", 2, 2, 1, 0);
        due.sentence("neither loses less by another CELL alone");
        rests("BQ0020Q5530S01S51", 2, 2, 2, 5);
        rests("BQ0520S01S33", 2, 2, 12, 1);
    }

    // ---- KICKED

    private static void kickedByNone() {
        due.sentence("TAKEN by x tenths (0 to 10)");
        CenturyBeds x = Due.made(SIX + "S01");
        for (int t = 0; t <= 10; t++) {
            kicked(x, t, 0, t == 1 ? 1 : 0, 1);
        }
    }

    private static void kickedByAll() {
        due.sentence("TAKEN by x tenths (0 to 10)");
        CenturyBeds x = Due.made(SIX + "S01");
        for (int t = 0; t <= 10; t++) {
            kicked(x, t, 10, t == 10 ? 1 : 0, 1);
        }
    }

    private static void kickedOfNone() {
        due.sentence("each BLANKET in THE BED is TAKEN");
        CenturyBeds x = Due.made("BQ0510S01");
        x.take(0);
        for (int tenths = 0; tenths <= 10; tenths++) {
            kicked(x, 10, tenths, 1, 1);
            kicked(x, 1, tenths, 0, 1);
        }
    }

    private static void kickedSmall() {
        due.sentence("by x tenths (0 to 10), by itself");
        CenturyBeds x = Due.made(SIX + "S01");
        kicked(x, 10, 1, 1, 1000000);
        kicked(x, 10, 9, 531441, 1000000);
        kicked(x, 10, 5, 1, 64);
        kicked(x, 6, 1, 9, 1000000);
        kicked(x, 6, 5, 1, 64);
        kicked(x, 1, 9, 1, 10);
        kicked(x, 2, 2, 4, 25);
        CenturyBeds sheets = Due.made("BQ0041Q0051S01");
        kicked(sheets, 4, 3, 21, 100);
        kicked(sheets, 5, 3, 21, 100);
        kicked(sheets, 10, 3, 29, 50);
    }

    private static void chancesTogether() {
        due.sentence("that a SLEEPER WAKES in t then: a FRACTION");
        String[] beds = {SIX + "S03", "BQ0541Q0551Q1133Q2532Q4430Q0283S13", "BQ0302Q2511Q1423S22", "BS01"};
        for (String bed : beds) {
            for (int tenths = 0; tenths <= 10; tenths++) {
                CenturyBeds x = Due.made(bed);
                int sum = 0;
                for (int t = 0; t <= 10; t++) {
                    int below = x.kicked(0, t, tenths, false);
                    due.is("a million by what is below, " + bed, below < 1 ? -1 : 1000000 % below, 0);
                    sum += below < 1 ? 0 : x.kicked(0, t, tenths, true) * (1000000 / below);
                }
                due.is("chances together, " + tenths + " tenths, " + bed, sum, 1000000);
            }
        }
    }

    // ---- THE SEED, WEEKS

    private static void seeds() {
        due.sentence("THE SEED is v: what it was.");
        CenturyBeds x = new CenturyBeds();
        long was = 0;
        for (long v : new long[] {1, -1, Long.MAX_VALUE, Long.MIN_VALUE, 1L << 32, 0, 7, 7}) {
            due.is("seed(" + v + ")", x.seed(v), was);
            was = v;
        }
    }

    private static void howManyWeeks() {
        due.sentence("m times (1 to 30)");
        CenturyBeds x = Due.made("BS01S12S33");
        x.seed(9);
        for (int wrong : new int[] {Integer.MIN_VALUE, -1, 0, 31, Integer.MAX_VALUE}) {
            due.is("weeks(" + wrong + ")", x.weeks(wrong), OUTSIDE);
        }
        due.is("refused ones leave the seed", x.seed(9), 9);
        due.is("weeks(1)", x.weeks(1), 30);
        due.is("weeks(30)", x.weeks(30), 900);
        due.is("with nobody", Due.made(SIX).weeks(30), 0);
        due.is("in a new object", new CenturyBeds().weeks(30), 0);
    }

    private static BigInteger next(BigInteger x) {
        return x.multiply(new BigInteger("6364136223846793005")).add(new BigInteger("1442695040888963407"))
                .mod(BigInteger.ONE.shiftLeft(64));
    }

    private static final long[] SEEDS = {0, 1, -1, 5, 41, Long.MAX_VALUE, Long.MIN_VALUE, 0x5DEECE66DL, -20261118};

    private static void seedWraps() {
        due.sentence("64 bits, wrapping");
        for (long seed : SEEDS) {
            for (int m : new int[] {1, 2, 29, 30}) {
                CenturyBeds x = new CenturyBeds();
                x.seed(seed);
                x.weeks(m);
                BigInteger want = BigInteger.valueOf(seed);
                for (int i = 0; i < m; i++) {
                    want = next(want);
                }
                due.is("the seed " + seed + " behind weeks(" + m + ")", x.seed(0), want.longValue());
            }
        }
    }

    // What is drawn is done here with acts, on an object of the same bed.
    private static void weeksAreActs() {
        due.sentence("its upper 31 bits by 18 .. if there is such a one and it can be: TIMES .. each time, together");
        String[] beds = {SIX + "S01S12S33", "BQ0541Q0551Q1133Q2532Q4430Q0283S13", "BQ0302Q2511Q1423S22S01", "BQ0010S02"};
        for (String bed : beds) {
            for (long seed : SEEDS) {
                CenturyBeds x = Due.made(bed);
                x.seed(seed);
                due.is("weeks(30) of " + bed + " by " + seed, x.weeks(30), byActs(bed, seed, 30));
                x.seed(seed);
                due.is("weeks(1) of " + bed + " by " + seed, x.weeks(1), byActs(bed, seed, 1));
            }
        }
    }

    private static int byActs(String bed, long seed, int m) {
        CenturyBeds y = Due.made(bed);
        BigInteger x = BigInteger.valueOf(seed);
        int together = 0;
        for (int i = 0; i < m; i++) {
            x = next(x);
            int drawn = x.shiftRight(33).mod(BigInteger.valueOf(18)).intValue();
            int blanket = drawn % 6;
            if (drawn < 6) {
                y.take(blanket);
            } else if (drawn < 12) {
                y.lay(blanket);
            } else {
                y.tuck(blanket);
            }
            for (int s = 0; s < y.count(2); s++) {
                together += y.sleeper(s, 2);
            }
        }
        return together;
    }
}
