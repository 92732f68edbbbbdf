/** Objects in which much has happened, made anew for each test that would spoil them. */
final class States {
    static final int NEW = 0, FULL_UP = 1, HALF = 2, EMPTIED = 3;
    static final int MANY = 4;

    private States() {
    }

    static CenturyBeds made(int which) {
        switch (which) {
            case FULL_UP:
                return fullUp();
            case HALF:
                return half();
            case EMPTIED:
                return emptied();
            default:
                return new CenturyBeds();
        }
    }

    /** All that has a limit is at it: letters, blankets, sleepers, acts, seen, slots. */
    private static CenturyBeds fullUp() {
        CenturyBeds x = Due.made("BQ0530Q1282Q0271Q3593Q2451Q4410S02S31S51");
        x.night();
        x.keep(0);
        x.take(0);
        x.take(3);
        x.turn(1, 1);
        x.night();
        x.tuck(3);
        x.keep(1);
        for (int i = 0; i < 4; i++) {
            x.turn(1, 2);
            x.night();
            x.turn(1, 1);
        }
        x.lay(0);
        for (int i = 0; i < 6; i++) {
            x.see(i % 3, x.sleeper(i % 3, 2));
        }
        x.seed(-77);
        Due.write(x, "????");
        return x;
    }

    /** Nothing is at its limit; another bed is told, but not made. */
    private static CenturyBeds half() {
        CenturyBeds x = Due.made("BQ0530Q1282S02S31");
        x.night();
        x.take(1);
        x.keep(1);
        x.turn(1, 1);
        x.see(0, 3);
        x.seed(5);
        x.wipe();
        Due.write(x, "BQ0590S01");
        return x;
    }

    /** A bare bed behind a full one: nothing of that one is left but what was seen and the seed. */
    private static CenturyBeds emptied() {
        CenturyBeds x = fullUp();
        Due.make(x, "B");
        return x;
    }
}
