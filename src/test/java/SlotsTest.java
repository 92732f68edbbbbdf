/** Promises 29 and 30: keep, again. */
public final class SlotsTest {
    private static final Due due = new Due("SlotsTest");

    public static void main(String[] args) {
        CenturyBeds x = Due.made("BQ0530Q0540S02");
        due.is("again, none kept", x.again(0), CenturyBeds.STATE);
        x.night();
        x.take(0);
        due.is("keep(0)", x.keep(0), 1);
        due.is("acts stay", x.count(6), 2);
        x.lay(0);
        x.turn(0, 1);
        x.night();
        due.is("keep(1)", x.keep(1), 2);
        x.see(0, 4);
        x.seed(9);
        due.is("again(0)", x.again(0), 1);
        due.is("order", x.count(4), 2);
        due.is("place", x.sleeper(0, 0), 0);
        due.is("woken", x.sleeper(0, 3), 8);
        due.is("night", x.count(3), 1);
        due.is("the row is empty", x.count(6), 0);
        due.is("nothing to undo", x.undo(), CenturyBeds.STATE);
        due.is("seen stays", x.count(7), 1);
        due.is("seed stays", x.seed(9), 9);
        x.night();
        due.is("undo goes back to what was kept", x.undo(), 0);
        due.is("night", x.count(3), 1);
        x.tuck(0);
        due.is("again(1)", x.again(1), 2);
        due.is("order", x.count(4), 21);
        due.is("place", x.sleeper(0, 0), 1);
        due.is("woken", x.sleeper(0, 3), 24);
        due.is("again(0) a second time", x.again(0), 1);
        due.is("what is kept does not change", x.count(4), 2);
        due.is("kept anew", x.keep(1), 1);
        due.is("kept anew", x.again(1), 1);
        for (int wrong : new int[] {-1, 2, Integer.MAX_VALUE, Integer.MIN_VALUE}) {
            due.is("keep(" + wrong + ")", x.keep(wrong), CenturyBeds.UNKNOWN);
            due.is("again(" + wrong + ")", x.again(wrong), CenturyBeds.UNKNOWN);
        }
        x.night();
        CenturyBeds y = Due.made("B");
        due.is("refused", y.again(1), CenturyBeds.STATE);
        y.night();
        due.is("refused", y.again(1), CenturyBeds.STATE);
        due.is("a refusal leaves the row", y.count(6), 1);
        due.end();
    }
}
