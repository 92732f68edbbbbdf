/** Promises 9 to 14: take, lay, tuck, turn, night, undo. */
public final class ActsTest {
    private static final Due due = new Due("ActsTest");

    public static void main(String[] args) {
        blankets();
        turns();
        nights();
        undoing();
        forgetting();
        refusedOnesAreNoActs();
        due.end();
    }

    private static void blankets() {
        CenturyBeds x = Due.made("BQ0530Q0540Q0550");
        due.is("lay, lying", x.lay(1), CenturyBeds.STATE);
        due.is("tuck, lying", x.tuck(1), CenturyBeds.STATE);
        due.is("take(1)", x.take(1), 2);
        due.is("take, not lying", x.take(1), CenturyBeds.STATE);
        due.is("order", x.count(4), 13);
        due.is("take(0)", x.take(0), 1);
        due.is("lay(0)", x.lay(0), 2);
        due.is("order", x.count(4), 31);
        due.is("tuck(1)", x.tuck(1), 3);
        due.is("order", x.count(4), 231);
        due.is("time", x.cell(0, 0), 4);
        for (int wrong : new int[] {-1, 3, Integer.MAX_VALUE, Integer.MIN_VALUE}) {
            due.is("take(" + wrong + ")", x.take(wrong), CenturyBeds.UNKNOWN);
            due.is("lay(" + wrong + ")", x.lay(wrong), CenturyBeds.UNKNOWN);
            due.is("tuck(" + wrong + ")", x.tuck(wrong), CenturyBeds.UNKNOWN);
        }
        x.take(0);
        x.take(1);
        due.is("the last one taken", x.take(2), 0);
        due.is("tuck onto nothing", x.tuck(2), 1);
    }

    private static void turns() {
        CenturyBeds x = Due.made("BS02S41");
        due.is("back from the edge", x.turn(0, 2), CenturyBeds.STATE);
        due.is("on", x.turn(0, 1), 1);
        due.is("on", x.turn(0, 1), 2);
        due.is("on, where another lies", x.turn(0, 1), CenturyBeds.STATE);
        due.is("back, where another lies", x.turn(1, 2), CenturyBeds.STATE);
        due.is("on", x.turn(1, 1), 5);
        due.is("on from the edge", x.turn(1, 1), CenturyBeds.STATE);
        due.is("on, it is free now", x.turn(0, 1), 3);
        due.is("back", x.turn(0, 2), 2);
        due.is("way 0", x.turn(0, 0), CenturyBeds.OUTSIDE);
        due.is("way 3", x.turn(0, 3), CenturyBeds.OUTSIDE);
        due.is("unknown ahead of outside", x.turn(2, 3), CenturyBeds.UNKNOWN);
        due.is("turn(-1, 1)", x.turn(-1, 1), CenturyBeds.UNKNOWN);
        due.is("acts", x.count(6), 5);
    }

    private static void nights() {
        CenturyBeds x = Due.made("BQ0530S01S51");
        due.is("night", x.night(), 1);
        due.is("woken", x.sleeper(0, 3), 8);
        x.take(0);
        due.is("woken by nights alone", x.sleeper(0, 3), 8);
        due.is("night", x.night(), 2);
        due.is("woken", x.sleeper(1, 3), 8 + 1024);
        due.is("night with nobody", new CenturyBeds().night(), 1);
    }

    private static void undoing() {
        CenturyBeds x = Due.made("BQ0530Q0540Q0550S02");
        x.take(1);
        x.turn(0, 1);
        x.night();
        x.tuck(1);
        x.night();
        due.is("undo a night", x.undo(), 4);
        due.is("night then", x.count(3), 1);
        due.is("woken then", x.sleeper(0, 3), 8);
        due.is("undo a tucking", x.undo(), 3);
        due.is("order then", x.count(4), 13);
        due.is("undo a night", x.undo(), 2);
        due.is("woken then", x.sleeper(0, 3), 0);
        due.is("undo a turn", x.undo(), 1);
        due.is("place then", x.sleeper(0, 0), 0);
        due.is("undo a taking", x.undo(), 0);
        due.is("it lies where it lay", x.count(4), 123);
        due.is("nothing to undo", x.undo(), CenturyBeds.STATE);
    }

    private static void forgetting() {
        CenturyBeds x = Due.made("BS01");
        for (int i = 1; i <= 20; i++) {
            due.is("night " + i, x.night(), i);
            due.is("acts then", x.count(6), Math.min(i, 14));
        }
        for (int left = 13; left >= 0; left--) {
            due.is("undo", x.undo(), left);
        }
        due.is("the first ones are forgotten", x.undo(), CenturyBeds.STATE);
        due.is("the night that is left", x.count(3), 6);
    }

    private static void refusedOnesAreNoActs() {
        CenturyBeds x = Due.made("BQ0000S01");
        for (int i = 0; i < 14; i++) {
            x.night();
        }
        x.lay(0);
        x.tuck(0);
        x.turn(0, 2);
        x.take(5);
        for (int i = 13; i >= 0; i--) {
            due.is("undo behind refusals", x.undo(), i);
        }
        due.is("night 0", x.count(3), 0);
    }
}
