/** Every refusal of every call, in every state: which one is answered, and that nothing is changed. */
public final class RefusalsTest {
    private interface Call {
        long on(CenturyBeds x);
    }

    private static final int LEAST = Integer.MIN_VALUE, MOST = Integer.MAX_VALUE;
    private static final int UNKNOWN = CenturyBeds.UNKNOWN, OUTSIDE = CenturyBeds.OUTSIDE;
    private static final int STATE = CenturyBeds.STATE, FULL = CenturyBeds.FULL;

    private static final Due due = new Due("RefusalsTest");
    private static int state;
    private static String untouched;

    public static void main(String[] args) {
        for (state = 0; state < States.MANY; state++) {
            untouched = Probe.of(States.made(state));
            unknownBlankets();
            unknownSleepers();
            unknownSlots();
            outsideOfKnownBlankets();
            outsideOfKnownSleepers();
            outsideOfAll();
        }
        states();
        full();
        due.end();
    }

    private static void refused(String call, Call made, int want) {
        CenturyBeds x = States.made(state);
        due.is("state " + state + ": " + call, made.on(x), want);
        due.same("state " + state + ": behind " + call, Probe.of(x), untouched);
    }

    private static int blankets() {
        return States.made(state).count(1);
    }

    private static int sleepers() {
        return States.made(state).count(2);
    }

    // ---- UNKNOWN

    private static void unknownBlankets() {
        due.sentence("UNKNOWN (there is no such BLANKET, ..), ahead of OUTSIDE");
        for (int b : new int[] {LEAST, -1, blankets(), blankets() + 1, 6, MOST}) {
            for (int what : new int[] {0, 4, 5, -1}) {
                refused("blanket(" + b + ", " + what + ")", x -> x.blanket(b, what), UNKNOWN);
            }
            refused("take(" + b + ")", x -> x.take(b), UNKNOWN);
            refused("lay(" + b + ")", x -> x.lay(b), UNKNOWN);
            refused("tuck(" + b + ")", x -> x.tuck(b), UNKNOWN);
            refused("share(" + b + ", true)", x -> x.share(b, true), UNKNOWN);
            refused("share(" + b + ", false)", x -> x.share(b, false), UNKNOWN);
        }
    }

    private static void unknownSleepers() {
        due.sentence("UNKNOWN (there is no such .. SLEEPER ..), ahead of OUTSIDE, STATE, FULL");
        for (int s : new int[] {LEAST, -1, sleepers(), sleepers() + 1, 3, MOST}) {
            for (int n : new int[] {0, 1, 99, -1}) {
                refused("sleeper(" + s + ", " + n + ")", x -> x.sleeper(s, n), UNKNOWN);
                refused("turn(" + s + ", " + n + ")", x -> x.turn(s, n), UNKNOWN);
                refused("toTake(" + s + ", " + n + ")", x -> x.toTake(s, n), UNKNOWN);
                refused("toTurn(" + s + ", " + n + ")", x -> x.toTurn(s, n), UNKNOWN);
                refused("toTuck(" + s + ", " + n + ")", x -> x.toTuck(s, n), UNKNOWN);
                refused("orders(" + s + ", " + n + ", false)", x -> x.orders(s, n, false), UNKNOWN);
                refused("orders(" + s + ", " + n + ", true)", x -> x.orders(s, n, true), UNKNOWN);
                refused("see(" + s + ", " + n + ")", x -> x.see(s, n), UNKNOWN);
                refused("kicked(" + s + ", " + n + ", 1, true)", x -> x.kicked(s, n, 1, true), UNKNOWN);
                refused("kicked(" + s + ", 1, " + n + ", false)", x -> x.kicked(s, 1, n, false), UNKNOWN);
                refused("rests(" + s + ", 0, 0, 0, " + n + ")", x -> x.rests(s, 0, 0, 0, n), UNKNOWN);
                refused("rests(0, " + s + ", " + n + ", 0, 0)", x -> x.rests(0, s, n, 0, 0), UNKNOWN);
                refused("rests(" + s + ", " + s + ", 0, " + n + ", 0)", x -> x.rests(s, s, 0, n, 0), UNKNOWN);
            }
        }
    }

    private static void unknownSlots() {
        due.sentence("UNKNOWN (there is no such .. SLOT), ahead of STATE");
        for (int slot : new int[] {LEAST, -1, 2, 3, MOST}) {
            refused("keep(" + slot + ")", x -> x.keep(slot), UNKNOWN);
            refused("again(" + slot + ")", x -> x.again(slot), UNKNOWN);
        }
    }

    // ---- OUTSIDE

    private static void outsideOfKnownBlankets() {
        due.sentence("OUTSIDE (another number is not as told): what of a BLANKET");
        for (int b = 0; b < blankets(); b++) {
            for (int what : new int[] {LEAST, -1, 5, 6, MOST}) {
                int known = b;
                refused("blanket(" + b + ", " + what + ")", x -> x.blanket(known, what), OUTSIDE);
            }
        }
    }

    private static void outsideOfKnownSleepers() {
        due.sentence("OUTSIDE (another number is not as told): of a call for a SLEEPER");
        for (int known = 0; known < sleepers(); known++) {
            int s = known;
            for (int what : new int[] {LEAST, -1, 4, 5, MOST}) {
                refused("sleeper(" + s + ", " + what + ")", x -> x.sleeper(s, what), OUTSIDE);
            }
            // Sleeper 0 can not turn back, so this looks at OUTSIDE ahead of STATE too.
            for (int way : new int[] {LEAST, -1, 0, 3, MOST}) {
                refused("turn(" + s + ", " + way + ")", x -> x.turn(s, way), OUTSIDE);
            }
            for (int t : new int[] {LEAST, -1, 11, 12, MOST}) {
                outsideTimes(s, t);
                outsideRests(s, t);
            }
            refused("toTuck(" + s + ", 10)", x -> x.toTuck(s, 10), OUTSIDE);
        }
    }

    private static void outsideTimes(int s, int t) {
        refused("toTake(" + s + ", " + t + ")", x -> x.toTake(s, t), OUTSIDE);
        refused("toTurn(" + s + ", " + t + ")", x -> x.toTurn(s, t), OUTSIDE);
        refused("toTuck(" + s + ", " + t + ")", x -> x.toTuck(s, t), OUTSIDE);
        refused("orders(" + s + ", " + t + ", false)", x -> x.orders(s, t, false), OUTSIDE);
        refused("orders(" + s + ", " + t + ", true)", x -> x.orders(s, t, true), OUTSIDE);
        refused("see(" + s + ", " + t + ")", x -> x.see(s, t), OUTSIDE);
        for (boolean upper : new boolean[] {true, false}) {
            refused("kicked(" + s + ", " + t + ", 0, ..)", x -> x.kicked(s, t, 0, upper), OUTSIDE);
            refused("kicked(" + s + ", 0, " + t + ", ..)", x -> x.kicked(s, 0, t, upper), OUTSIDE);
        }
    }

    private static void outsideRests(int s, int t) {
        int other = s == 0 ? 1 : 0;
        refused("rests(" + s + ", " + s + ", 0, 0, 0)", x -> x.rests(s, s, 0, 0, 0), OUTSIDE);
        refused("rests(" + s + ", " + other + ", " + t + ", 0, 0)", x -> x.rests(s, other, t, 0, 0), OUTSIDE);
        refused("rests(" + s + ", " + other + ", 0, " + t + ", 0)", x -> x.rests(s, other, 0, t, 0), OUTSIDE);
        refused("rests(" + s + ", " + other + ", 0, 0, " + t + ")", x -> x.rests(s, other, 0, 0, t), OUTSIDE);
        refused("rests(" + s + ", " + other + ", 0, 0, 2)", x -> x.rests(s, other, 0, 0, 2), OUTSIDE);
    }

    private static void outsideOfAll() {
        due.sentence("OUTSIDE (another number is not as told)");
        for (int wrong : new int[] {LEAST, -1, 256, 257, 256 + 'B', MOST}) {
            refused("write(" + wrong + ")", x -> x.write(wrong), OUTSIDE);
        }
        for (int wrong : new int[] {LEAST, -1, 6, 7, MOST}) {
            for (int what : new int[] {0, 1, 2, 3}) {
                refused("cell(" + wrong + ", " + what + ")", x -> x.cell(wrong, what), OUTSIDE);
            }
        }
        for (int wrong : new int[] {LEAST, -1, 3, 4, MOST}) {
            refused("cell(0, " + wrong + ")", x -> x.cell(0, wrong), OUTSIDE);
            refused("cell(5, " + wrong + ")", x -> x.cell(5, wrong), OUTSIDE);
        }
        for (int wrong : new int[] {LEAST, -1, 0, 4, 5, MOST}) {
            refused("where(" + wrong + ", 10)", x -> x.where(wrong, 10), OUTSIDE);
        }
        for (int wrong : new int[] {LEAST, -1, 11, 12, MOST}) {
            refused("where(1, " + wrong + ")", x -> x.where(1, wrong), OUTSIDE);
            refused("where(3, " + wrong + ")", x -> x.where(3, wrong), OUTSIDE);
        }
        for (int wrong : new int[] {LEAST, -1, 0, 31, 32, MOST}) {
            refused("weeks(" + wrong + ")", x -> x.weeks(wrong), OUTSIDE);
        }
        for (int wrong : new int[] {LEAST, -1, 8, 9, MOST}) {
            refused("count(" + wrong + ")", x -> x.count(wrong), OUTSIDE);
        }
        outsideJudged();
    }

    private static void outsideJudged() {
        for (int wrong : new int[] {LEAST, -1, 0, 5, 6, 16, MOST}) {
            refused("judge(" + wrong + ", 0)", x -> x.judge(wrong, 0), OUTSIDE);
            refused("judge(" + wrong + ", -1)", x -> x.judge(wrong, -1), OUTSIDE);
        }
        for (int n = 1; n <= 4; n++) {
            int things = n;
            int tooLong = (int) Math.pow(100, n);
            for (int row : new int[] {LEAST, -1, tooLong, tooLong + 1, MOST}) {
                refused("judge(" + n + ", " + row + ")", x -> x.judge(things, row), OUTSIDE);
            }
        }
    }

    // ---- STATE, FULL

    private static void refusedIn(int which, String call, Call made, int want) {
        state = which;
        untouched = Probe.of(States.made(state));
        refused(call, made, want);
    }

    private static void states() {
        due.sentence("STATE: a FAULT");
        refusedIn(States.NEW, "bed()", CenturyBeds::bed, STATE);
        refusedIn(States.FULL_UP, "bed()", CenturyBeds::bed, STATE);
        due.sentence("STATE: it does not");
        refusedIn(States.HALF, "take(1)", x -> x.take(1), STATE);
        due.sentence("STATE: it does");
        refusedIn(States.HALF, "lay(0)", x -> x.lay(0), STATE);
        refusedIn(States.HALF, "tuck(0)", x -> x.tuck(0), STATE);
        for (int b = 0; b < 6; b++) {
            int lying = b;
            refusedIn(States.FULL_UP, "lay(" + b + ")", x -> x.lay(lying), STATE);
            refusedIn(States.FULL_UP, "tuck(" + b + ")", x -> x.tuck(lying), STATE);
        }
        due.sentence("STATE: it can not lie there");
        refusedIn(States.HALF, "turn(0, 2)", x -> x.turn(0, 2), STATE);
        refusedIn(States.FULL_UP, "turn(0, 2)", x -> x.turn(0, 2), STATE);
        refusedIn(States.FULL_UP, "turn(1, 1)", x -> x.turn(1, 1), STATE);
        refusedIn(States.FULL_UP, "turn(2, 1)", x -> x.turn(2, 1), STATE);
        refusedIn(States.FULL_UP, "turn(2, 2)", x -> x.turn(2, 2), STATE);
        due.sentence("STATE: there is none");
        refusedIn(States.NEW, "undo()", CenturyBeds::undo, STATE);
        refusedIn(States.EMPTIED, "undo()", CenturyBeds::undo, STATE);
        due.sentence("STATE: none were kept");
        refusedIn(States.HALF, "again(0)", x -> x.again(0), STATE);
        for (int slot = 0; slot < 2; slot++) {
            int none = slot;
            refusedIn(States.NEW, "again(" + slot + ")", x -> x.again(none), STATE);
            refusedIn(States.EMPTIED, "again(" + slot + ")", x -> x.again(none), STATE);
        }
    }

    private static void full() {
        due.sentence("FULL: there are 44");
        for (int letter : new int[] {0, 'B', 255}) {
            refusedIn(States.FULL_UP, "write(" + letter + ")", x -> x.write(letter), FULL);
        }
        due.sentence("FULL: 6");
        for (int t = 0; t <= 10; t++) {
            int time = t;
            refusedIn(States.FULL_UP, "see(0, " + t + ")", x -> x.see(0, time), FULL);
            refusedIn(States.FULL_UP, "see(2, " + t + ")", x -> x.see(2, time), FULL);
        }
    }
}
