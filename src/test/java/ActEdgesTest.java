/** Each sentence on a boundary in promises 9 to 14, and in the terms of ACTS. */
public final class ActEdgesTest {
    private static final int STATE = CenturyBeds.STATE, UNKNOWN = CenturyBeds.UNKNOWN;
    private static final int OUTSIDE = CenturyBeds.OUTSIDE;
    private static final String SIX = "BQ0010Q0020Q0030Q0040Q0050Q0060";

    private static final Due due = new Due("ActEdgesTest");

    public static void main(String[] args) {
        taking();
        laying();
        tucking();
        turningToTheEdges();
        turningIntoOthers();
        ways();
        nights();
        undoingEach();
        fullRow();
        longRow();
        refusedActs();
        goingOnBehindUndo();
        due.end();
    }

    private static void taking() {
        due.sentence("TAKEN: how many lie in THE BED. UNKNOWN; STATE: it does not.");
        CenturyBeds x = Due.made(SIX);
        due.is("the lowest", x.take(0), 5);
        due.is("order", x.count(4), 23456);
        due.is("the top one", x.take(5), 4);
        due.is("order", x.count(4), 2345);
        due.is("one between", x.take(2), 3);
        due.is("order", x.count(4), 245);
        due.is("taken already", x.take(2), STATE);
        due.is("taken already", x.take(5), STATE);
        x.take(1);
        x.take(3);
        due.is("the last one", x.take(4), 0);
        for (int b = 0; b < 6; b++) {
            due.is("none lies", x.take(b), STATE);
        }
        due.is("take(6)", x.take(6), UNKNOWN);
        due.is("take(-1)", x.take(-1), UNKNOWN);
        due.is("one told, take(1)", Due.made("BQ0010").take(1), UNKNOWN);
        due.is("acts", x.count(6), 6);
    }

    private static void laying() {
        due.sentence("LAID: how many lie in THE BED. UNKNOWN; STATE: it does.");
        CenturyBeds x = Due.made(SIX);
        for (int b = 0; b < 6; b++) {
            due.is("all lie", x.lay(b), STATE);
        }
        for (int b = 0; b < 6; b++) {
            x.take(b);
        }
        due.is("the first one", x.lay(3), 1);
        due.is("it lies", x.lay(3), STATE);
        due.is("on top", x.lay(5), 2);
        due.is("on top", x.lay(0), 3);
        due.is("order", x.count(4), 461);
        due.is("the lowest tells the time", x.cell(0, 0), 4);
        x.lay(1);
        x.lay(2);
        due.is("the sixth", x.lay(4), 6);
        due.is("order", x.count(4), 461235);
        due.is("lay(6)", x.lay(6), UNKNOWN);
        due.is("lay(-1)", x.lay(-1), UNKNOWN);
        due.is("one told, lay(1)", Due.made("BQ0010").lay(1), UNKNOWN);
    }

    private static void tucking() {
        due.sentence("TUCKED: how many lie in THE BED. UNKNOWN; STATE: it does.");
        CenturyBeds x = Due.made(SIX);
        for (int b = 0; b < 6; b++) {
            due.is("all lie", x.tuck(b), STATE);
        }
        for (int b = 0; b < 6; b++) {
            x.take(b);
        }
        due.is("the first one", x.tuck(3), 1);
        due.is("it lies", x.tuck(3), STATE);
        due.is("it lies", x.lay(3), STATE);
        due.is("below all", x.tuck(5), 2);
        due.is("below all", x.tuck(0), 3);
        due.is("order", x.count(4), 164);
        due.is("the lowest tells the time", x.cell(0, 0), 1);
        x.tuck(1);
        x.tuck(2);
        due.is("the sixth", x.tuck(4), 6);
        due.is("order", x.count(4), 532164);
        due.is("tuck(6)", x.tuck(6), UNKNOWN);
        due.is("tuck(-1)", x.tuck(-1), UNKNOWN);
        due.is("one told, tuck(1)", Due.made("BQ0010").tuck(1), UNKNOWN);
    }

    private static void turningToTheEdges() {
        due.sentence("a SLEEPER lies a CELL on, or a CELL back (on CELLS ..)");
        for (int wide = 1; wide <= 3; wide++) {
            CenturyBeds x = Due.made("BS0" + wide);
            due.is("back off the bed", x.turn(0, 2), STATE);
            for (int at = 1; at + wide <= 6; at++) {
                due.is("on to " + at + ", " + wide + " wide", x.turn(0, 1), at);
            }
            due.is("on off the bed, " + wide + " wide", x.turn(0, 1), STATE);
            due.is("it stays", x.sleeper(0, 0), 6 - wide);
            for (int at = 5 - wide; at >= 0; at--) {
                due.is("back to " + at + ", " + wide + " wide", x.turn(0, 2), at);
            }
            due.is("back off the bed, " + wide + " wide", x.turn(0, 2), STATE);
            due.is("it stays", x.sleeper(0, 0), 0);
        }
    }

    private static void turningIntoOthers() {
        due.sentence("on CELLS on which nobody else lies");
        CenturyBeds x = Due.made("BS12S42");
        due.is("one cell is free", x.turn(0, 1), 2);
        due.is("the next is not", x.turn(0, 1), STATE);
        due.is("nor from the other side", x.turn(1, 2), STATE);
        due.is("nor off the bed", x.turn(1, 1), STATE);
        due.is("back", x.turn(0, 2), 1);
        due.is("it is free now", x.turn(1, 2), 3);
        due.is("no further", x.turn(1, 2), STATE);
        CenturyBeds y = Due.made("BS03S33");
        for (int s = 0; s < 2; s++) {
            for (int way = 1; way <= 2; way++) {
                due.is("no cell is free", y.turn(s, way), STATE);
            }
        }
        CenturyBeds z = Due.made("BS51S31S11");
        due.is("told in another order", z.turn(2, 1), 2);
        due.is("in its way", z.turn(2, 1), STATE);
        due.is("in its way", z.turn(1, 2), STATE);
        due.is("on", z.turn(1, 1), 4);
        due.is("in its way", z.turn(1, 1), STATE);
        due.is("in its way", z.turn(0, 2), STATE);
    }

    private static void ways() {
        due.sentence("OUTSIDE: way (1 on, 2 back); STATE: it can not lie there.");
        CenturyBeds x = Due.made("BS01S11");
        for (int wrong : new int[] {Integer.MIN_VALUE, -1, 0, 3, 4, Integer.MAX_VALUE}) {
            due.is("way " + wrong, x.turn(0, wrong), OUTSIDE);
            due.is("nobody, way " + wrong, x.turn(2, wrong), UNKNOWN);
        }
        due.is("nobody, way 1", x.turn(2, 1), UNKNOWN);
        due.is("nobody, way 1", x.turn(-1, 1), UNKNOWN);
        due.is("nothing was turned", x.count(6), 0);
        due.is("places", x.sleeper(0, 0) * 10 + x.sleeper(1, 0), 1);
    }

    private static void nights() {
        due.sentence("A NIGHT: each SLEEPER has woken in the TIME it WAKES in now; THE NIGHT is one more.");
        CenturyBeds x = Due.made("BQ0000Q1190S01S11S21");
        due.is("night", x.night(), 1);
        due.is("century 0", x.sleeper(0, 3), 1);
        due.is("century 9", x.sleeper(1, 3), 1 << 9);
        due.is("modern", x.sleeper(2, 3), 1 << 10);
        CenturyBeds all = Due.made("BQ0050Q0542S01");
        for (int i = 0; i < 11; i++) {
            all.night();
        }
        due.is("one time, however often", all.sleeper(0, 3), 1 << 5);
        CenturyBeds nobody = Due.made("BQ0050");
        due.is("a night with nobody", nobody.night(), 1);
        due.is("can be undone", nobody.undo(), 0);
        due.is("night", nobody.count(3), 0);
        CenturyBeds turns = Due.made("BQ0512S01");
        for (int i = 0; i < 6; i++) {
            turns.night();
            turns.turn(0, 1);
        }
        due.is("woken in six times", turns.sleeper(0, 3), 0b1111110);
    }

    private static void undoingEach() {
        due.sentence("The last ACT is undone: how many are left. STATE: there is none.");
        CenturyBeds x = Due.made("BQ0010Q0020Q0030S02");
        due.is("none", x.undo(), STATE);
        x.take(1);
        due.is("taking undone", x.undo(), 0);
        due.is("between the others again", x.count(4), 123);
        due.is("none", x.undo(), STATE);
        x.take(1);
        x.lay(1);
        due.is("laying undone", x.undo(), 1);
        due.is("order", x.count(4), 13);
        x.tuck(1);
        due.is("tucking undone", x.undo(), 1);
        due.is("order", x.count(4), 13);
        x.turn(0, 1);
        due.is("turning on undone", x.undo(), 1);
        due.is("place", x.sleeper(0, 0), 0);
        x.turn(0, 1);
        x.turn(0, 2);
        due.is("turning back undone", x.undo(), 2);
        due.is("place", x.sleeper(0, 0), 1);
        x.night();
        due.is("a night undone", x.undo(), 2);
        due.is("night", x.count(3), 0);
        due.is("woken", x.sleeper(0, 3), 0);
        x.night();
        x.night();
        due.is("the second night in the same time undone", x.undo(), 3);
        due.is("night", x.count(3), 1);
        due.is("it has woken all the same", x.sleeper(0, 3), 1 << 10);
        due.is("undone", x.undo(), 2);
        due.is("undone", x.undo(), 1);
        due.is("all undone", x.undo(), 0);
        due.is("order", x.count(4), 123);
        due.is("none", x.undo(), STATE);
        due.is("none, again", x.undo(), STATE);
    }

    private static void fullRow() {
        due.sentence("ACTS .. are a row (14 at most; of more the first one is forgotten)");
        CenturyBeds x = Due.made("BQ0010S01");
        x.take(0);
        for (int i = 1; i < 14; i++) {
            due.is("acts", x.count(6), i);
            x.night();
        }
        due.is("14 acts", x.count(6), 14);
        for (int left = 13; left >= 0; left--) {
            due.is("undo", x.undo(), left);
        }
        due.is("of 14 none is forgotten", x.count(4), 1);
        due.is("none is left", x.undo(), STATE);
        x.take(0);
        for (int i = 0; i < 14; i++) {
            x.night();
        }
        due.is("15 acts", x.count(6), 14);
        for (int left = 13; left >= 0; left--) {
            due.is("undo", x.undo(), left);
        }
        due.is("none is left", x.undo(), STATE);
        due.is("the first of 15 is forgotten", x.count(4), 0);
        due.is("all nights are undone", x.count(3), 0);
    }

    private static void longRow() {
        due.sentence("of more the first one is forgotten");
        CenturyBeds x = Due.made("BS01");
        for (int i = 1; i <= 100; i++) {
            x.night();
            due.is("acts behind " + i, x.count(6), Math.min(i, 14));
        }
        for (int i = 1; i <= 14; i++) {
            due.is("undo " + i, x.undo(), 14 - i);
            due.is("night then", x.count(3), 100 - i);
        }
        due.is("none is left", x.undo(), STATE);
        due.is("woken long ago", x.sleeper(0, 3), 1024);
    }

    private static void refusedActs() {
        due.sentence("What is refused changes nothing.");
        CenturyBeds x = Due.made("BQ0010S01");
        x.take(0);
        for (int i = 1; i < 14; i++) {
            x.night();
        }
        due.is("take", x.take(0), STATE);
        due.is("take(1)", x.take(1), UNKNOWN);
        due.is("turn back", x.turn(0, 2), STATE);
        due.is("turn nowhere", x.turn(0, 0), OUTSIDE);
        due.is("acts", x.count(6), 14);
        for (int left = 13; left >= 0; left--) {
            due.is("undo", x.undo(), left);
        }
        due.is("the first act was not forgotten", x.count(4), 1);
        due.is("lay", x.lay(0), STATE);
        due.is("tuck", x.tuck(0), STATE);
        due.is("no acts", x.count(6), 0);
    }

    private static void goingOnBehindUndo() {
        due.sentence("the last one can be undone");
        CenturyBeds x = Due.made("BQ0010Q0020S01");
        for (int i = 0; i < 20; i++) {
            x.night();
        }
        x.undo();
        x.undo();
        x.take(0);
        due.is("acts", x.count(6), 13);
        x.turn(0, 1);
        due.is("acts", x.count(6), 14);
        due.is("undo the turn", x.undo(), 13);
        due.is("place", x.sleeper(0, 0), 0);
        due.is("undo the taking", x.undo(), 12);
        due.is("order", x.count(4), 12);
        due.is("night", x.count(3), 18);
        for (int left = 11; left >= 0; left--) {
            due.is("undo", x.undo(), left);
        }
        due.is("the night that is left", x.count(3), 6);
    }
}
