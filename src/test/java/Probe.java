/** Asks an object all that it can tell, so that two can be compared; some 300 calls, which use it up. */
final class Probe {
    private final CenturyBeds x;
    private final StringBuilder told = new StringBuilder();

    private Probe(CenturyBeds x) {
        this.x = x;
    }

    static String of(CenturyBeds x) {
        Probe probe = new Probe(x);
        probe.look();
        probe.goBack();
        probe.goOnFromSlots();
        probe.makeAnew();
        return probe.told.toString();
    }

    private void tell(String what, long answer) {
        told.append(what).append(answer).append(' ');
    }

    private void look() {
        tell("fault ", x.fault());
        for (int what = 0; what < 8; what++) {
            tell("count ", x.count(what));
        }
        parts();
        for (int c = 0; c < 6; c++) {
            for (int what = 0; what < 3; what++) {
                tell("cell ", x.cell(c, what));
            }
        }
        tell("seed ", x.seed(0));
    }

    private void parts() {
        for (int b = 0; b < 6; b++) {
            for (int what = 0; what < 5; what++) {
                tell("blanket ", x.blanket(b, what));
            }
        }
        for (int s = 0; s < 3; s++) {
            for (int what = 0; what < 4; what++) {
                tell("sleeper ", x.sleeper(s, what));
            }
        }
    }

    private void howAllLies() {
        tell("night ", x.count(3));
        tell("order ", x.count(4));
        for (int s = 0; s < 3; s++) {
            tell("at ", x.sleeper(s, 0));
            tell("woken ", x.sleeper(s, 3));
        }
        tell("gone ", x.gone());
    }

    private void goBack() {
        for (int i = 0; i < 15; i++) {
            tell("undo ", x.undo());
            howAllLies();
        }
    }

    private void goOnFromSlots() {
        for (int slot = 0; slot < 2; slot++) {
            tell("again ", x.again(slot));
            howAllLies();
        }
    }

    private void makeAnew() {
        tell("unsee ", x.unsee());
        tell("bed ", x.bed());
        parts();
        tell("wipe ", x.wipe());
    }
}
