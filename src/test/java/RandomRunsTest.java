import java.util.Random;

/** All promises: long runs of drawn calls, the class against the model, wrong numbers among them. */
public final class RandomRunsTest {
    private static final int RUNS = 400;
    private static final int CALLS = 512;
    private static final int[] ODD = {-1, -2, 11, 12, 31, 100, Integer.MAX_VALUE, Integer.MIN_VALUE};

    private final Due due = new Due("RandomRunsTest");
    private final Random random;
    private CenturyBeds x;
    private Model model;
    private int run;

    private RandomRunsTest(long seed) {
        random = new Random(seed);
    }

    public static void main(String[] args) {
        RandomRunsTest test = new RandomRunsTest(20261117);
        for (int run = 0; run < RUNS && test.due.allWell(); run++) {
            test.oneRun(run);
        }
        test.due.end();
    }

    private void oneRun(int number) {
        run = number;
        x = new CenturyBeds();
        model = new Model();
        int calls = random.nextInt(4) == 0 ? 0 : makeBed();
        while (calls < CALLS && due.allWell()) {
            if (random.nextInt(100) == 0 && calls < CALLS - 60) {
                calls += makeBed();
            } else {
                drawnCall(random.nextInt(30));
                calls++;
            }
        }
    }

    private void is(String call, long got, long want) {
        due.is("run " + run + ": " + call, got, want);
    }

    private int of(int bound) {
        return random.nextInt(40) == 0 ? ODD[random.nextInt(ODD.length)] : random.nextInt(bound);
    }

    private String drawnText() {
        StringBuilder s = new StringBuilder("B");
        int slept = 0;
        int blankets = random.nextInt(7);
        int sleepers = random.nextInt(4);
        while (blankets + sleepers > 0) {
            if (random.nextInt(blankets + sleepers) < blankets) {
                blankets--;
                int a = random.nextInt(6);
                s.append('Q').append(a).append(a + random.nextInt(6 - a));
                s.append(random.nextInt(random.nextBoolean() ? 10 : 3)).append(random.nextInt(4));
            } else {
                sleepers--;
                int w = 1 + random.nextInt(3);
                int p = random.nextInt(7 - w);
                int bits = (1 << w) - 1 << p;
                if ((bits & slept) == 0) {
                    slept |= bits;
                    s.append('S').append(p).append(w);
                }
            }
        }
        return s.toString();
    }

    private String spoilt(String text) {
        StringBuilder s = new StringBuilder(text);
        String letters = "BQS0123456789x";
        char c = letters.charAt(random.nextInt(letters.length()));
        int place = random.nextInt(s.length() + 1);
        switch (random.nextInt(3)) {
            case 0:
                s.insert(place, c);
                break;
            case 1:
                s.setLength(place);
                break;
            default:
                s.setCharAt(Math.min(place, s.length() - 1), c);
        }
        return s.toString();
    }

    private int makeBed() {
        String text = drawnText();
        if (random.nextInt(3) == 0) {
            text = spoilt(text);
        }
        is("wipe", x.wipe(), model.wipe());
        for (int i = 0; i < text.length(); i++) {
            is("write", x.write(text.charAt(i)), model.write(text.charAt(i)));
        }
        is("fault of " + text, x.fault(), model.fault());
        is("bed of " + text, x.bed(), model.bed());
        return text.length() + 3;
    }

    private void drawnCall(int which) {
        if (which < 10) {
            looking(which);
        } else if (which < 20) {
            acting(which);
        } else {
            reckoning(which);
        }
    }

    private void looking(int which) {
        int a = of(7);
        int b = of(9);
        switch (which) {
            case 0:
                int letter = random.nextInt(300) - 20;
                is("write(" + letter + ")", x.write(letter), model.write(letter));
                is("fault", x.fault(), model.fault());
                break;
            case 1:
                is("bed", x.bed(), model.bed());
                break;
            case 2:
            case 3:
                is("blanket(" + a + ", " + b + ")", x.blanket(a, b), model.blanket(a, b));
                break;
            case 4:
            case 5:
                is("sleeper(" + a + ", " + b + ")", x.sleeper(a % 4, b), model.sleeper(a % 4, b));
                break;
            case 6:
            case 7:
                is("cell(" + a + ", " + b % 4 + ")", x.cell(a, b % 4), model.cell(a, b % 4));
                break;
            default:
                is("count(" + b + ")", x.count(b), model.count(b));
        }
    }

    private void acting(int which) {
        int b = of(6);
        int s = of(3);
        int slot = of(2);
        switch (which) {
            case 10:
            case 11:
                is("take(" + b + ")", x.take(b), model.move(1, b));
                break;
            case 12:
                is("lay(" + b + ")", x.lay(b), model.move(2, b));
                break;
            case 13:
                is("tuck(" + b + ")", x.tuck(b), model.move(3, b));
                break;
            case 14:
            case 15:
                int way = of(2) + 1;
                is("turn(" + s + ", " + way + ")", x.turn(s, way), model.turn(s, way));
                break;
            case 16:
                is("night", x.night(), model.night());
                break;
            case 17:
                is("undo", x.undo(), model.undo());
                break;
            case 18:
                is("keep(" + slot + ")", x.keep(slot), model.keep(slot));
                break;
            default:
                // Seldom, so that the row of acts gets full.
                if (random.nextInt(4) == 0) {
                    is("again(" + slot + ")", x.again(slot), model.again(slot));
                }
        }
    }

    private void reckoning(int which) {
        int s = of(3);
        int t = of(11);
        boolean flag = random.nextBoolean();
        switch (which) {
            case 20:
                is("toTake(" + s + ", " + t + ")", x.toTake(s, t), model.toTake(s, t));
                break;
            case 21:
                is("toTurn(" + s + ", " + t + ")", x.toTurn(s, t), model.toTurn(s, t));
                break;
            case 22:
                is("toTuck(" + s + ", " + t + ")", x.toTuck(s, t), model.toTuck(s, t));
                break;
            case 23:
                is("orders(" + s + ", " + t + ", " + flag + ")", x.orders(s, t, flag), model.orders(s, t, flag));
                break;
            case 24:
                int n = of(5);
                int told = drawnRow(n);
                is("judge(" + n + ", " + told + ")", x.judge(n, told), model.judge(n, told));
                break;
            case 25:
                seeing(s, t);
                break;
            case 26:
                int w = of(3) + 1;
                is("where(" + w + ", " + t + ")", x.where(w, t), model.where(w, t));
                break;
            case 27:
                int b = of(6);
                is("share(" + b + ", " + flag + ")", x.share(b, flag), model.share(b, flag));
                break;
            case 28:
                resting(s, t);
                break;
            default:
                chancing(s, t, flag);
        }
    }

    private int drawnRow(int n) {
        int told = 0;
        for (int i = 0; i < n && i < 4; i++) {
            told = told * 100 + 10 * random.nextInt(7) + random.nextInt(6);
        }
        return random.nextInt(10) == 0 ? random.nextInt() : random.nextInt(5) == 0 ? 0 : told;
    }

    // What was seen is mostly drawn from what one can wake in, else gone() would mostly answer 0.
    private void seeing(int s, int t) {
        int when = random.nextBoolean() ? Math.max(model.sleeper(s, 2), 0) : t;
        if (random.nextInt(6) == 0) {
            is("unsee", x.unsee(), model.unsee());
        }
        if (random.nextInt(2) == 0) {
            is("see(" + s + ", " + when + ")", x.see(s, when), model.see(s, when));
        }
        is("gone", x.gone(), model.gone());
    }

    private void resting(int s, int t) {
        int other = of(3);
        int u = of(11);
        int what = of(2);
        is("rests(" + s + ", " + other + ", " + t + ", " + u + ", " + what + ")",
                x.rests(s, other, t, u, what), model.rests(s, other, t, u, what));
    }

    private void chancing(int s, int t, boolean flag) {
        int tenths = of(11);
        is("kicked(" + s + ", " + t + ", " + tenths + ", " + flag + ")",
                x.kicked(s, t, tenths, flag), model.kicked(s, t, tenths, flag));
        int m = of(31);
        is("weeks(" + m + ")", x.weeks(m), model.weeks(m));
        if (flag) {
            long v = random.nextLong();
            is("seed(" + v + ")", x.seed(v), model.seed(v));
        }
    }
}
