/** Promises 20 to 23: see, unsee, gone, where. */
public final class SeenTest {
    private static final Due due = new Due("SeenTest");

    public static void main(String[] args) {
        seeing();
        beingGone();
        lyingWhere();
        due.end();
    }

    private static void seeing() {
        CenturyBeds x = Due.made("BS01S11");
        due.is("see(2, 99)", x.see(2, 99), CenturyBeds.UNKNOWN);
        due.is("see(-1, 0)", x.see(-1, 0), CenturyBeds.UNKNOWN);
        due.is("see(0, 11)", x.see(0, 11), CenturyBeds.OUTSIDE);
        due.is("see(0, -1)", x.see(0, -1), CenturyBeds.OUTSIDE);
        for (int i = 1; i <= 6; i++) {
            due.is("see, " + i, x.see(i % 2, 10), i);
        }
        due.is("see, a seventh", x.see(0, 0), CenturyBeds.FULL);
        due.is("outside ahead of full", x.see(0, 11), CenturyBeds.OUTSIDE);
        due.is("gone, nothing lies", x.gone(), 64);
        due.is("unsee", x.unsee(), 6);
        due.is("unsee", x.unsee(), 0);
        due.is("see, the first", x.see(0, 3), 1);
        due.is("gone, not so", x.gone(), 0);
    }

    private static void beingGone() {
        CenturyBeds x = Due.made("BQ0230Q0540Q0550S02S41");
        due.is("nothing seen", x.gone(), 64 + 7);
        x.see(0, 4);
        due.is("the first was gone", x.gone(), 1);
        x.see(1, 4);
        due.is("the first, still", x.gone(), 1);
        x.see(1, 5);
        due.is("nothing makes both so", x.gone(), 0);
        x.unsee();
        x.see(1, 4);
        due.is("not the second", x.gone(), 64 + 5);
        x.take(0);
        due.is("only what lies", x.gone(), 64 + 4);
        x.unsee();
        x.see(0, 4);
        x.turn(0, 1);
        due.is("where it lies now", x.gone(), 64 + 4);
        CenturyBeds y = Due.made("BQ0050S01");
        y.see(0, 5);
        due.is("so as it is", y.gone(), 64);
        y.turn(0, 1);
        due.is("not so where it lies now", y.gone(), 0);
        y.wipe();
        Due.write(y, "BQ0530");
        y.bed();
        due.is("of sleepers that are not nothing is looked at", y.gone(), 65);
        due.is("but it stays seen", y.count(7), 1);
        CenturyBeds sheet = Due.made("BQ0041Q0053S01");
        sheet.see(0, 4);
        due.is("the sheet counts when it is alone", sheet.gone(), 2);
    }

    private static void lyingWhere() {
        CenturyBeds x = Due.made("BQ0130Q3440S21");
        due.is("where(1, 3)", x.where(1, 3), 0b000011);
        due.is("where(1, 10)", x.where(1, 10), 0b100100);
        due.is("where(2, 3)", x.where(2, 3), 0b000011);
        due.is("where(2, 4)", x.where(2, 4), 0b011100);
        due.is("where(2, 10)", x.where(2, 10), 0);
        due.is("where(3, 3)", x.where(3, 3), 0b000011);
        due.is("where(3, 4)", x.where(3, 4), 0b001100);
        due.is("where(3, 5)", x.where(3, 5), 0);
        due.is("where(0, 3)", x.where(0, 3), CenturyBeds.OUTSIDE);
        due.is("where(4, 3)", x.where(4, 3), CenturyBeds.OUTSIDE);
        due.is("where(1, -1)", x.where(1, -1), CenturyBeds.OUTSIDE);
        due.is("where(1, 11)", x.where(1, 11), CenturyBeds.OUTSIDE);
        due.is("where on a bare bed", new CenturyBeds().where(3, 10), 0b001111);
    }
}
