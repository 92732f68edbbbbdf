/** Each sentence on a boundary in promises 20 to 23, and in the terms SEEN, GONE, LAY. */
public final class SeenEdgesTest {
    private static final int UNKNOWN = CenturyBeds.UNKNOWN, OUTSIDE = CenturyBeds.OUTSIDE;
    private static final int FULL = CenturyBeds.FULL;
    private static final int NONE_GONE = 64;
    private static final String SIX = "BQ0510Q0520Q0530Q0540Q0550Q0560";

    private static final Due due = new Due("SeenEdgesTest");

    public static void main(String[] args) {
        sixAtMost();
        timesSeen();
        unseeing();
        nothingSeen();
        eachAlone();
        allThatIsSeen();
        whereItLiesNow();
        sleepersThatAreNoMore();
        widths();
        timesOfPlaces();
        places();
        due.end();
    }

    private static void sixAtMost() {
        due.sentence("SEEN .. 6 such at most, none at first; SEEN: how many there are; FULL: 6");
        CenturyBeds x = Due.made("BS01S11S21");
        due.is("none at first", x.count(7), 0);
        for (int i = 1; i <= 6; i++) {
            due.is("see, " + i, x.see(2, 10), i);
            due.is("count(7)", x.count(7), i);
        }
        due.is("the seventh", x.see(2, 10), FULL);
        due.is("the seventh", x.see(0, 0), FULL);
        due.is("six stay", x.count(7), 6);
        due.is("the seventh is not looked at", x.gone(), NONE_GONE);
        due.is("OUTSIDE ahead of FULL", x.see(0, 11), OUTSIDE);
        due.is("UNKNOWN ahead of FULL", x.see(3, 0), UNKNOWN);
        due.is("UNKNOWN ahead of OUTSIDE", x.see(3, 11), UNKNOWN);
    }

    private static void timesSeen() {
        due.sentence("UNKNOWN; OUTSIDE: t");
        CenturyBeds x = Due.made("BS01");
        due.is("t -1", x.see(0, -1), OUTSIDE);
        due.is("t 11", x.see(0, 11), OUTSIDE);
        due.is("nobody", x.see(1, 0), UNKNOWN);
        due.is("nobody", x.see(-1, 0), UNKNOWN);
        due.is("refused ones are not seen", x.count(7), 0);
        due.is("t 0", x.see(0, 0), 1);
        due.is("t 10", x.see(0, 10), 2);
    }

    private static void unseeing() {
        due.sentence("Nothing is SEEN: how much there was.");
        CenturyBeds x = Due.made("BS01");
        due.is("nothing", x.unsee(), 0);
        for (int i = 0; i < 6; i++) {
            x.see(0, 3);
        }
        due.is("not so", x.gone(), 0);
        due.is("six", x.unsee(), 6);
        due.is("nothing", x.unsee(), 0);
        due.is("nothing is looked at", x.gone(), NONE_GONE);
        due.is("there is room again", x.see(0, 10), 1);
        due.is("what was seen ahead is not looked at", x.gone(), NONE_GONE);
        due.is("one", x.unsee(), 1);
    }

    private static void nothingSeen() {
        due.sentence("GONE: BLANKETS that lie in THE BED (bits; bit 6: none)");
        due.is("a new object", new CenturyBeds().gone(), NONE_GONE);
        due.is("none told", Due.made("BS01").gone(), NONE_GONE);
        CenturyBeds x = Due.made(SIX + "S01");
        due.is("six", x.gone(), 127);
        x.take(0);
        x.take(5);
        due.is("those that lie", x.gone(), NONE_GONE + 0b011110);
        for (int b = 1; b < 5; b++) {
            x.take(b);
        }
        due.is("none lies", x.gone(), NONE_GONE);
    }

    private static int gone(String text, int t) {
        CenturyBeds x = Due.made(text);
        x.see(0, t);
        return x.gone();
    }

    private static void eachAlone() {
        due.sentence("each of which alone, TAKEN, makes all that is SEEN so");
        due.is("the lowest", gone(SIX + "S01", 2), 1);
        due.is("any but the lowest, or none", gone(SIX + "S01", 1), NONE_GONE + 0b111110);
        due.is("it would take two", gone(SIX + "S01", 3), 0);
        due.is("never", gone(SIX + "S01", 9), 0);
        due.is("the last of six", gone("BQ1110Q2210Q3310Q4410Q5510Q0010S01", 10), 32);
        due.is("either one", gone("BQ0041Q0051S01", 10), NONE_GONE);
        due.is("the other sheet", gone("BQ0041Q0051S01", 5), 1);
        due.is("the other sheet", gone("BQ0041Q0051S01", 4), 2);
        due.is("the only one", gone("BQ0041S01", 10), 1);
        due.is("none lies, so it is", gone("BS01", 10), NONE_GONE);
        due.is("none lies, never", gone("BS01", 0), 0);
    }

    private static void allThatIsSeen() {
        due.sentence("makes all that is SEEN so");
        CenturyBeds x = Due.made("BQ0210Q3520Q0530S02S42");
        x.see(0, 3);
        due.is("the first", x.gone(), 1);
        x.see(1, 2);
        due.is("the first, while the second lies", x.gone(), 1);
        x.see(0, 3);
        due.is("seen twice", x.gone(), 1);
        due.is("seen twice is two", x.count(7), 3);
        x.see(1, 3);
        due.is("two times of one sleeper", x.gone(), 0);
        x.unsee();
        for (int i = 0; i < 5; i++) {
            x.see(0, 1);
        }
        due.is("five of them", x.gone(), NONE_GONE + 0b110);
        x.see(1, 3);
        due.is("the sixth is looked at", x.gone(), 0b010);
    }

    private static void whereItLiesNow() {
        due.sentence("that a SLEEPER, where it lies now, woke in a TIME t");
        CenturyBeds x = Due.made("BQ0010Q1120S01");
        x.see(0, 10);
        due.is("at cell 0", x.gone(), 1);
        x.turn(0, 1);
        due.is("at cell 1", x.gone(), 2);
        x.turn(0, 1);
        due.is("at cell 2", x.gone(), NONE_GONE + 3);
        x.undo();
        due.is("turned back", x.gone(), 2);
        x.take(1);
        due.is("it does not lie there", x.gone(), NONE_GONE + 1);
    }

    private static void sleepersThatAreNoMore() {
        due.sentence("of SLEEPERS that there are not any more nothing is looked at");
        CenturyBeds x = Due.made("BQ0010S01S11S21");
        x.see(0, 1);
        x.see(1, 5);
        x.see(2, 5);
        due.is("not so", x.gone(), 0);
        Due.make(x, "BQ0010S01");
        due.is("one is left", x.gone(), NONE_GONE);
        due.is("all stay seen", x.count(7), 3);
        Due.make(x, "BQ0010");
        due.is("nobody is left", x.gone(), NONE_GONE + 1);
        due.is("nobody can be seen", x.see(0, 1), UNKNOWN);
        Due.make(x, "BQ0550S01S11");
        due.is("two are there again", x.gone(), 0);
        x.unsee();
        x.see(1, 5);
        due.is("seen anew", x.gone(), NONE_GONE);
        due.sentence("SEEN, THE SEED stay");
        x.bed();
        due.is("made anew", x.count(7), 1);
        due.is("made anew", x.gone(), NONE_GONE);
    }

    private static void widths() {
        due.sentence("LAY for w (1 to 3)");
        CenturyBeds x = new CenturyBeds();
        due.is("where(0, 10)", x.where(0, 10), OUTSIDE);
        due.is("where(1, 10)", x.where(1, 10), 0b111111);
        due.is("where(2, 10)", x.where(2, 10), 0b011111);
        due.is("where(3, 10)", x.where(3, 10), 0b001111);
        due.is("where(4, 10)", x.where(4, 10), OUTSIDE);
        due.is("where(-1, 10)", x.where(-1, 10), OUTSIDE);
    }

    private static void timesOfPlaces() {
        due.sentence("OUTSIDE: w, t.");
        CenturyBeds x = Due.made("BQ0000Q5590");
        due.is("where(1, 0)", x.where(1, 0), 1);
        due.is("where(1, 9)", x.where(1, 9), 32);
        due.is("where(1, 10)", x.where(1, 10), 0b011110);
        due.is("where(1, 11)", x.where(1, 11), OUTSIDE);
        due.is("where(1, -1)", x.where(1, -1), OUTSIDE);
        due.is("where(4, 11)", x.where(4, 11), OUTSIDE);
        due.is("nowhere", x.where(1, 5), 0);
    }

    private static void places() {
        due.sentence("CELLS (bits) from which on one w CELLS wide would WAKE in t");
        CenturyBeds x = Due.made("BQ0512S03S33");
        for (int c = 0; c < 6; c++) {
            due.is("where(1, " + (c + 1) + ")", x.where(1, c + 1), 1 << c);
        }
        for (int c = 0; c < 5; c++) {
            due.is("of like ones the least, two wide", x.where(2, c + 1), 1 << c);
        }
        for (int c = 0; c < 4; c++) {
            due.is("of like ones the least, three wide", x.where(3, c + 1), 1 << c);
        }
        due.is("not off the end, two wide", x.where(2, 6), 0);
        due.is("not off the end, three wide", x.where(3, 5), 0);
        CenturyBeds y = Due.made("BQ4540");
        due.is("most of three", y.where(3, 4), 0b001000);
        due.is("one of two", y.where(2, 4), 0b011000);
        due.is("the others", y.where(3, 10), 0b000111);
        y.take(0);
        due.is("taken", y.where(3, 4), 0);
    }
}
