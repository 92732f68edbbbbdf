/** "In what follows nothing is changed": every call that only asks, in every state. */
public final class UnchangedTest {
    private interface Call {
        long on(CenturyBeds x);
    }

    private static final Due due = new Due("UnchangedTest");
    private static int state;
    private static String untouched;

    public static void main(String[] args) {
        for (state = 0; state < States.MANY; state++) {
            untouched = Probe.of(States.made(state));
            askingTheBed();
            planning();
            lookingBack();
            reckoning();
            weeks();
            keeping();
        }
        textAlone();
        due.end();
    }

    private static void unchanged(String call, Call made) {
        CenturyBeds x = States.made(state);
        long first = made.on(x);
        due.is("state " + state + ": " + call + " a second time", made.on(x), first);
        due.same("state " + state + ": behind " + call, Probe.of(x), untouched);
    }

    private static void askingTheBed() {
        due.sentence("Of a BLANKET .. Of a SLEEPER .. Of a CELL");
        unchanged("fault", CenturyBeds::fault);
        for (int n = 0; n < 6; n++) {
            int number = n;
            unchanged("blanket", x -> x.blanket(0, number));
            unchanged("sleeper", x -> x.sleeper(1, number));
            unchanged("cell", x -> x.cell(number, number % 3));
            unchanged("count", x -> x.count(number));
        }
    }

    private static void planning() {
        due.sentence("In what follows nothing is changed. TAKE .. TURN .. TUCK .. ORDERS .. JUDGED");
        for (int t = 0; t <= 10; t++) {
            int time = t;
            unchanged("toTake", x -> x.toTake(0, time));
            unchanged("toTurn", x -> x.toTurn(0, time));
            unchanged("toTuck", x -> x.toTuck(0, time));
            unchanged("orders", x -> x.orders(0, time, false));
            unchanged("orders", x -> x.orders(0, time, true));
        }
        for (int row : new int[] {0, 10112030, 10202131, 40415051, 20304050, 10111213, 99999999}) {
            unchanged("judge(4, " + row + ")", x -> x.judge(4, row));
        }
    }

    private static void lookingBack() {
        due.sentence("GONE .. LAY");
        unchanged("gone", CenturyBeds::gone);
        for (int w = 1; w <= 3; w++) {
            int wide = w;
            unchanged("where", x -> x.where(wide, 3));
        }
    }

    private static void reckoning() {
        due.sentence("SHARE .. RESTS .. KICKED");
        for (int n = 0; n < 6; n++) {
            int number = n;
            unchanged("share", x -> x.share(number, true));
            unchanged("share", x -> x.share(number, false));
            unchanged("rests", x -> x.rests(0, 1, number, 9, number % 2));
            unchanged("kicked", x -> x.kicked(0, 10, number, true));
            unchanged("kicked", x -> x.kicked(0, 3, number, false));
        }
    }

    private static void weeks() {
        due.sentence("Nothing changes but THE SEED");
        for (int m = 1; m <= 30; m++) {
            CenturyBeds x = States.made(state);
            long seed = x.seed(0);
            x.seed(seed);
            int first = x.weeks(m);
            x.seed(seed);
            due.is("weeks(" + m + ") by the same seed", x.weeks(m), first);
            x.seed(seed);
            due.same("state " + state + ": behind weeks(" + m + ")", Probe.of(x), untouched);
        }
    }

    private static void keeping() {
        due.sentence("They are kept: THE NIGHT");
        CenturyBeds x = States.made(state);
        CenturyBeds other = States.made(state);
        for (int slot = 0; slot < 2; slot++) {
            due.is("state " + state + ": keep(" + slot + ")", x.keep(slot), x.count(3));
        }
        for (int what = 0; what < 8; what++) {
            due.is("state " + state + ": count(" + what + ") behind keep", x.count(what), other.count(what));
        }
        for (int i = 0; i < 15; i++) {
            due.is("state " + state + ": undo behind keep", x.undo(), other.undo());
            due.is("state " + state + ": the order then", x.count(4), other.count(4));
        }
    }

    private static void textAlone() {
        due.sentence("A letter comes behind THE TEXT .. THE TEXT is empty");
        for (String letters : new String[] {"", "Q", "S01", "BQ0590S01"}) {
            CenturyBeds x = States.made(States.HALF);
            x.wipe();
            Due.write(x, letters);
            due.is("letters", x.count(0), letters.length());
            x.wipe();
            Due.write(x, "BQ0590S01");
            due.same("the bed behind writing " + letters, Probe.of(x), Probe.of(States.made(States.HALF)));
        }
    }
}
