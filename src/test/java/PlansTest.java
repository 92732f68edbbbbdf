/** Promises 15 to 19: toTake, toTurn, toTuck, orders, judge. */
public final class PlansTest {
    private static final Due due = new Due("PlansTest");

    public static void main(String[] args) {
        taking();
        turning();
        tucking();
        ordering();
        judging();
        refusing();
        due.end();
    }

    private static void taking() {
        CenturyBeds x = Due.made("BQ0530Q0540Q0550Q0540S01");
        due.is("wakes there already", x.toTake(0, 3), 0);
        due.is("one", x.toTake(0, 4), 1);
        due.is("two", x.toTake(0, 5), 3);
        due.is("all", x.toTake(0, 10), 15);
        due.is("never", x.toTake(0, 6), CenturyBeds.NONE);
        x.take(0);
        due.is("one fewer lies", x.toTake(0, 5), 2);
        due.is("taken ones are no more taken", x.toTake(0, 3), CenturyBeds.NONE);
        due.is("nothing is changed", x.count(4), 234);
        CenturyBeds y = Due.made("BQ1160Q0060Q0150S02");
        due.is("of like ones the least", y.toTake(0, 5), 1);
        CenturyBeds fewer = Due.made("BQ2230Q2230Q1190Q0250S03");
        due.is("the fewest, though not the least", fewer.toTake(0, 5), 4);
        CenturyBeds z = Due.made("BQ0051Q0053Q0063S11");
        due.is("bare cells", z.toTake(0, 10), 0);
        CenturyBeds sheets = Due.made("BQ0041Q0051S01");
        due.is("sheets are none", sheets.toTake(0, 10), 0);
        due.is("a lone sheet counts", sheets.toTake(0, 5), 1);
        due.is("a lone sheet counts", sheets.toTake(0, 4), 2);
    }

    private static void turning() {
        CenturyBeds x = Due.made("BQ0010Q1120Q3340Q4450Q5510S21S31");
        due.is("itself", x.toTurn(0, 10), 0);
        due.is("on, others set aside", x.toTurn(0, 4), 11);
        due.is("back", x.toTurn(0, 2), 21);
        due.is("back is nearer than on", x.toTurn(0, 1), 22);
        due.is("on", x.toTurn(1, 1), 12);
        due.is("never", x.toTurn(0, 7), CenturyBeds.NONE);
        CenturyBeds y = Due.made("BQ1120Q3320S21");
        due.is("on rather than back", y.toTurn(0, 2), 11);
        CenturyBeds z = Due.made("BQ5520S22");
        due.is("all its cells are cells", z.toTurn(0, 2), 12);
        due.is("it stays", z.sleeper(0, 0), 2);
        CenturyBeds w = Due.made("BQ5520S33");
        due.is("no half turn off the bed", w.toTurn(0, 2), CenturyBeds.NONE);
    }

    private static void tucking() {
        CenturyBeds x = Due.made("BQ0530S03S41");
        due.is("none is needed", x.toTuck(0, 3), 0);
        due.is("two of three, from the first on", x.toTuck(0, 8), 20);
        due.is("two of three, though less", x.toTuck(0, 1), 20);
        due.is("one cell", x.toTuck(1, 9), 14);
        CenturyBeds y = Due.made("BQ0530S22");
        due.is("one of two, being less", y.toTuck(0, 2), 12);
        due.is("both, being more", y.toTuck(0, 4), 22);
        CenturyBeds z = Due.made("BQ0010Q1120Q2230S03");
        due.is("two make most", z.toTuck(0, 9), 20);
        due.is("one makes the least", z.toTuck(0, 0), 10);
        due.is("one more of like", z.toTuck(0, 2), 10);
        due.is("nothing is changed", z.count(1), 3);
        CenturyBeds sheet = Due.made("BQ0041S01");
        due.is("a sheet counts no more", sheet.toTuck(0, 7), 10);
    }

    private static void ordering() {
        CenturyBeds x = Due.made("BQ0530Q0540Q0550S01");
        due.is("a third", x.orders(0, 4, false), 2);
        due.is("the first", x.orders(0, 4, true), 213);
        due.is("the first", x.orders(0, 5, true), 312);
        due.is("none", x.orders(0, 6, false), 0);
        due.is("none", x.orders(0, 6, true), CenturyBeds.NONE);
        due.is("never modern", x.orders(0, 10, false), 0);
        x.take(0);
        x.lay(0);
        due.is("whatever lies below", x.orders(0, 3, true), 123);
        due.is("nothing is changed", x.count(4), 231);
        x.take(1);
        due.is("two lie", x.orders(0, 5, false), 1);
        due.is("two lie", x.orders(0, 5, true), 31);
        CenturyBeds y = Due.made("BQ0530Q0540Q0550Q0560Q0570Q0580S13");
        due.is("all", y.orders(0, 8, false), 120);
        due.is("the first of six", y.orders(0, 8, true), 612345);
    }

    private static void judging() {
        CenturyBeds x = Due.made("BQ0530Q0540S01S21");
        int none = CenturyBeds.NONE;
        due.is("a night", x.judge(1, 0), none);
        due.is("four nights", x.judge(4, 0), none);
        due.is("a night is told 00", x.judge(1, 1), 0);
        due.is("taken", x.judge(1, 10), none);
        due.is("the second", x.judge(2, 1010), 1);
        due.is("taken, laid", x.judge(2, 1020), none);
        due.is("taken, tucked", x.judge(2, 1131), none);
        due.is("lies already", x.judge(1, 20), 0);
        due.is("lies already", x.judge(1, 31), 0);
        due.is("no such blanket", x.judge(1, 12), 0);
        due.is("no such sleeper", x.judge(1, 42), 0);
        due.is("turned on", x.judge(1, 40), none);
        due.is("turned on into another", x.judge(2, 4040), 1);
        due.is("turned away ahead", x.judge(3, 414040), none);
        due.is("turned back off", x.judge(1, 50), 0);
        due.is("turned on and back", x.judge(2, 4050), none);
        due.is("on three times", x.judge(4, 41414141), 3);
        due.is("no such thing", x.judge(1, 60), 0);
        due.is("no such thing", x.judge(2, 90), 1);
        due.is("a night, then taken", x.judge(2, 10), none);
        due.is("the first of two", x.judge(2, 9999), 0);
        due.is("nothing is changed", x.count(4), 12);
        due.is("nothing is changed", x.count(6), 0);
        due.is("nothing is changed", x.sleeper(0, 0), 0);
        due.is("nothing is changed", x.count(3), 0);
        int out = CenturyBeds.OUTSIDE;
        due.is("n 0", x.judge(0, 0), out);
        due.is("n 5", x.judge(5, 0), out);
        due.is("row -1", x.judge(1, -1), out);
        due.is("three figures", x.judge(1, 100), out);
        due.is("two figures", x.judge(1, 99), 0);
        due.is("five figures", x.judge(2, 10000), out);
        due.is("seven figures", x.judge(3, 1000000), out);
        due.is("nine figures", x.judge(4, 100000000), out);
        due.is("eight figures", x.judge(4, 99999999), 0);
        due.is("the greatest row", x.judge(4, Integer.MAX_VALUE), out);
    }

    private static void refusing() {
        CenturyBeds x = Due.made("BQ0530S01");
        for (int wrong : new int[] {-1, 1, 3, Integer.MAX_VALUE}) {
            due.is("toTake", x.toTake(wrong, 99), CenturyBeds.UNKNOWN);
            due.is("toTurn", x.toTurn(wrong, 99), CenturyBeds.UNKNOWN);
            due.is("toTuck", x.toTuck(wrong, 99), CenturyBeds.UNKNOWN);
            due.is("orders", x.orders(wrong, 99, true), CenturyBeds.UNKNOWN);
        }
        for (int wrong : new int[] {-1, 11, Integer.MIN_VALUE}) {
            due.is("toTake", x.toTake(0, wrong), CenturyBeds.OUTSIDE);
            due.is("toTurn", x.toTurn(0, wrong), CenturyBeds.OUTSIDE);
            due.is("toTuck", x.toTuck(0, wrong), CenturyBeds.OUTSIDE);
            due.is("orders", x.orders(0, wrong, false), CenturyBeds.OUTSIDE);
        }
        due.is("toTake modern", x.toTake(0, 10), 1);
        due.is("toTurn modern", x.toTurn(0, 10), CenturyBeds.NONE);
        due.is("toTuck modern", x.toTuck(0, 10), CenturyBeds.OUTSIDE);
        due.is("orders modern", x.orders(0, 10, false), 0);
    }
}
