/** Each sentence on a boundary in promises 29 and 30, and in the term SLOTS. */
public final class SlotEdgesTest {
    private static final int STATE = CenturyBeds.STATE, UNKNOWN = CenturyBeds.UNKNOWN;

    private static final Due due = new Due("SlotEdgesTest");

    public static void main(String[] args) {
        numbers();
        noneKept();
        bareOnes();
        allThatIsKept();
        whatIsNotKept();
        eachForItself();
        keptAnew();
        emptyRow();
        goneWithTheBed();
        due.end();
    }

    private static void numbers() {
        due.sentence("SLOTS 0 to 1");
        CenturyBeds x = Due.made("BS01");
        for (int wrong : new int[] {Integer.MIN_VALUE, -1, 2, 3, Integer.MAX_VALUE}) {
            due.is("keep(" + wrong + ")", x.keep(wrong), UNKNOWN);
            due.is("again(" + wrong + ")", x.again(wrong), UNKNOWN);
        }
        due.is("nothing was kept", x.again(0), STATE);
        due.is("nothing was kept", x.again(1), STATE);
        due.is("keep(0)", x.keep(0), 0);
        due.is("keep(1)", x.keep(1), 0);
        due.is("again(2), both kept", x.again(2), UNKNOWN);
    }

    private static void noneKept() {
        due.sentence("STATE: none were kept");
        CenturyBeds x = Due.made("BQ0010S01");
        x.night();
        due.is("again(0)", x.again(0), STATE);
        x.keep(1);
        due.is("again(0), the other kept", x.again(0), STATE);
        due.is("acts stay", x.count(6), 1);
        due.is("night stays", x.count(3), 1);
        due.is("again(1)", x.again(1), 1);
    }

    private static void bareOnes() {
        due.sentence("They are kept: THE NIGHT");
        CenturyBeds x = new CenturyBeds();
        x.night();
        due.is("in a new object", x.keep(1), 1);
        x.night();
        due.is("gone on from", x.again(1), 1);
        due.is("night", x.count(3), 1);
        CenturyBeds y = Due.made("BQ0010");
        y.take(0);
        y.keep(0);
        y.lay(0);
        y.again(0);
        due.is("nothing lay", y.count(4), 0);
    }

    private static void allThatIsKept() {
        due.sentence("keep how BLANKETS, SLEEPERS lie, who has woken when, THE NIGHT");
        CenturyBeds x = Due.made("BQ0010Q1120Q2230Q3340Q4450Q5560S01S21S41");
        x.take(0);
        x.lay(0);
        x.turn(2, 1);
        x.night();
        x.night();
        due.is("keep(1)", x.keep(1), 2);
        for (int b = 0; b < 6; b++) {
            x.take(b);
        }
        x.turn(2, 2);
        x.turn(1, 2);
        x.turn(1, 1);
        x.turn(1, 1);
        x.night();
        due.is("again(1)", x.again(1), 2);
        due.is("blankets", x.count(4), 234561);
        due.is("sleepers", x.sleeper(0, 0) * 100 + x.sleeper(1, 0) * 10 + x.sleeper(2, 0), 25);
        due.is("woken", x.sleeper(0, 3), 1 << 1);
        due.is("woken", x.sleeper(1, 3), 1 << 3);
        due.is("woken", x.sleeper(2, 3), 1 << 6);
        due.is("night", x.count(3), 2);
    }

    private static void whatIsNotKept() {
        due.sentence("keep how BLANKETS, SLEEPERS lie, who has woken when, THE NIGHT");
        CenturyBeds x = Due.made("BQ0010S01");
        x.keep(0);
        x.see(0, 1);
        x.see(0, 2);
        x.seed(33);
        x.write('Q');
        x.again(0);
        due.is("seen is as it is", x.count(7), 2);
        due.is("the seed is as it is", x.seed(33), 33);
        due.is("the text is as it is", x.count(0), 10);
    }

    private static void eachForItself() {
        due.sentence("They are as they were kept");
        CenturyBeds x = Due.made("BQ0010Q0020S01");
        x.keep(0);
        x.take(0);
        x.night();
        x.keep(1);
        x.take(1);
        for (int i = 0; i < 3; i++) {
            due.is("again(0)", x.again(0), 0);
            due.is("order", x.count(4), 12);
            x.night();
            x.take(1);
            due.is("again(1)", x.again(1), 1);
            due.is("order", x.count(4), 2);
            due.is("woken", x.sleeper(0, 3), 1 << 2);
            x.lay(0);
            x.night();
            x.undo();
        }
    }

    private static void keptAnew() {
        due.sentence("They are kept: THE NIGHT");
        CenturyBeds x = Due.made("BQ0010S01");
        due.is("keep", x.keep(0), 0);
        x.night();
        due.is("keep anew", x.keep(0), 1);
        x.night();
        due.is("the later one", x.again(0), 1);
        due.is("one into the other", x.keep(1), 1);
        due.is("both", x.again(1), 1);
    }

    private static void emptyRow() {
        due.sentence("THE ROW of ACTS is empty when one goes on");
        CenturyBeds x = Due.made("BQ0010S01");
        for (int i = 0; i < 15; i++) {
            x.night();
        }
        due.is("keep", x.keep(0), 15);
        due.is("the row stays when it is kept", x.count(6), 14);
        due.is("and can be undone", x.undo(), 13);
        due.is("again", x.again(0), 15);
        due.is("the row is empty", x.count(6), 0);
        due.is("nothing to undo", x.undo(), STATE);
        x.take(0);
        due.is("a row of its own", x.count(6), 1);
        due.is("undone", x.undo(), 0);
        due.is("nothing to undo", x.undo(), STATE);
        due.is("as it was kept", x.count(4) * 100 + x.count(3), 115);
        for (int i = 1; i <= 16; i++) {
            x.night();
            due.is("acts", x.count(6), Math.min(i, 14));
        }
    }

    private static void goneWithTheBed() {
        due.sentence("what was kept is gone");
        CenturyBeds x = Due.made("BQ0010S01");
        x.keep(0);
        x.keep(1);
        x.bed();
        due.is("again(0)", x.again(0), STATE);
        due.is("again(1)", x.again(1), STATE);
        due.is("keep(1)", x.keep(1), 0);
        due.is("again(0)", x.again(0), STATE);
        x.write('x');
        due.is("a bed that is refused", x.bed(), STATE);
        due.is("again(1)", x.again(1), 0);
    }
}
