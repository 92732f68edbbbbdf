/** Promises 1 to 5: a new object, write, wipe, fault, bed. */
public final class TextTest {
    private static final Due due = new Due("TextTest");

    public static void main(String[] args) {
        newObject();
        writing();
        faults();
        making();
        due.end();
    }

    private static void newObject() {
        CenturyBeds x = new CenturyBeds();
        for (int what = 0; what < 8; what++) {
            due.is("new count(" + what + ")", x.count(what), what == 5 ? 63 : 0);
        }
        due.is("new blanket", x.blanket(0, 0), CenturyBeds.UNKNOWN);
        due.is("new sleeper", x.sleeper(0, 0), CenturyBeds.UNKNOWN);
        due.is("new undo", x.undo(), CenturyBeds.STATE);
        due.is("new seed", x.seed(1), 0);
        due.is("new again", x.again(1), CenturyBeds.STATE);
    }

    private static void writing() {
        CenturyBeds x = new CenturyBeds();
        due.is("write(-1)", x.write(-1), CenturyBeds.OUTSIDE);
        due.is("write(256)", x.write(256), CenturyBeds.OUTSIDE);
        for (int i = 1; i <= 44; i++) {
            due.is("write, letter " + i, x.write(i % 2 == 0 ? 255 : 0), i);
        }
        due.is("write, letter 45", x.write(66), CenturyBeds.FULL);
        due.is("outside ahead of full", x.write(256), CenturyBeds.OUTSIDE);
        due.is("count(0), full", x.count(0), 44);
        due.is("wipe, full", x.wipe(), 44);
        due.is("wipe, empty", x.wipe(), 0);
        due.is("write, wiped", x.write(66), 1);
    }

    private static void fault(String text, int want) {
        CenturyBeds x = new CenturyBeds();
        Due.write(x, text);
        due.is("fault of " + text, x.fault(), want);
        int blankets = (int) text.chars().filter(c -> c == 'Q').count();
        int sleepers = (int) text.chars().filter(c -> c == 'S').count();
        int made = want == CenturyBeds.NONE ? 10 * blankets + sleepers : CenturyBeds.STATE;
        due.is("bed of " + text, x.bed(), made);
    }

    private static void faults() {
        int none = CenturyBeds.NONE;
        fault("", 0);
        fault("b", 0);
        fault("Q0000", 0);
        fault("B", none);
        fault("BB", 1);
        fault("BX", 1);
        fault("B ", 1);
        fault("BQ", 2);
        fault("BQ/", 2);
        fault("BQ6", 2);
        fault("BQ5", 3);
        fault("BQ54", 3);
        fault("BQ56", 3);
        fault("BQ55", 4);
        fault("BQ55:", 4);
        fault("BQ559", 5);
        fault("BQ5594", 5);
        fault("BQ5593", none);
        fault("BQ5590Q", 7);
        fault("BQ5590x", 6);
        fault("BS", 2);
        fault("BS6", 2);
        fault("BS/", 2);
        fault("BS0", 3);
        fault("BS00", 3);
        fault("BS04", 3);
        fault("BS03", none);
        fault("BS33", none);
        fault("BS43", 3);
        fault("BS42", none);
        fault("BS52", 3);
        fault("BS51", none);
        fault("BS21S2", 5);
        fault("BS21S12", 6);
        fault("BS21S11", none);
        fault("BS21S03", 6);
        fault("BS21S31", none);
        fault("BS03S33S", 7);
        fault("BS01S11S21S", 10);
        fault("BS01Q0530S11", none);
        fault("BQ0000Q0000Q0000Q0000Q0000Q0000", none);
        fault("BQ0000Q0000Q0000Q0000Q0000Q0000Q", 31);
        fault("BQ0000Q0000Q0000Q0000Q0000Q0000S01S11S21", none);
        fault("BQ0000Q0000Q0000Q0000Q0000Q0000S01S11S21S01S", 40);
    }

    private static void making() {
        CenturyBeds x = Due.made("BQ0530Q1282S02S31");
        x.take(0);
        x.turn(1, 1);
        x.night();
        x.see(0, 4);
        x.seed(77);
        x.keep(0);
        x.keep(1);
        x.write('?');
        due.is("bed with a fault", x.bed(), CenturyBeds.STATE);
        due.is("blankets that stay", x.count(4), 2);
        due.is("night that stays", x.count(3), 1);
        due.is("acts that stay", x.count(6), 3);
        due.is("kept that stays", x.again(1), 1);
        x.night();
        x.wipe();
        Due.write(x, "BQ0530Q1282S02S31");
        due.is("bed anew", x.bed(), 22);
        due.is("text stays", x.count(0), 17);
        due.is("blankets lie anew", x.count(4), 12);
        due.is("sleeper lies anew", x.sleeper(1, 0), 3);
        due.is("nobody has woken", x.sleeper(0, 3), 0);
        due.is("nobody has woken", x.sleeper(1, 3), 0);
        due.is("night anew", x.count(3), 0);
        due.is("acts anew", x.count(6), 0);
        due.is("undo anew", x.undo(), CenturyBeds.STATE);
        due.is("kept is gone", x.again(0), CenturyBeds.STATE);
        due.is("kept is gone", x.again(1), CenturyBeds.STATE);
        due.is("seen stays", x.count(7), 1);
        due.is("seed stays", x.seed(0), 77);
        x.wipe();
        Due.write(x, "B");
        due.is("empty bed", x.bed(), 0);
        due.is("no blanket", x.blanket(0, 0), CenturyBeds.UNKNOWN);
        due.is("no sleeper", x.sleeper(0, 0), CenturyBeds.UNKNOWN);
        due.is("nothing lies", x.count(4), 0);
    }
}
