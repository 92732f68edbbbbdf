/** Each sentence on a boundary in promises 1 to 5, and in the terms of THE TEXT, a BED, a FAULT. */
public final class TextEdgesTest {
    private static final int NONE = CenturyBeds.NONE, STATE = CenturyBeds.STATE;
    private static final int UNKNOWN = CenturyBeds.UNKNOWN, FULL = CenturyBeds.FULL;
    private static final String SIX = "Q0000Q0001Q0002Q0003Q0010Q0011";

    private static final Due due = new Due("TextEdgesTest");

    public static void main(String[] args) {
        newObject();
        calls();
        letters();
        wiping();
        beginnings();
        blanketLetters();
        sleeperLetters();
        sleeperPlaces();
        limitsOfParts();
        unfinished();
        firstFault();
        bedRefused();
        bedMade();
        bedAnew();
        due.end();
    }

    private static void newObject() {
        CenturyBeds x = new CenturyBeds();
        due.sentence("No blankets, nobody.");
        due.is("count(1)", x.count(1), 0);
        due.is("count(2)", x.count(2), 0);
        due.is("count(4)", x.count(4), 0);
        due.is("blanket(0, 4)", x.blanket(0, 4), UNKNOWN);
        due.is("sleeper(0, 2)", x.sleeper(0, 2), UNKNOWN);
        for (int c = 0; c < 6; c++) {
            due.is("time of cell " + c, x.cell(c, 0), 10);
            due.is("blankets on cell " + c, x.cell(c, 1), 0);
            due.is("nobody on cell " + c, x.cell(c, 2), NONE);
        }
        due.is("count(5)", x.count(5), 63);
        due.sentence("At first there is nothing.");
        due.is("count(0)", x.count(0), 0);
        due.is("fault", x.fault(), 0);
        due.is("wipe", x.wipe(), 0);
        due.is("night", x.count(3), 0);
        due.is("acts", x.count(6), 0);
        due.is("undo", x.undo(), STATE);
        due.sentence("6 such at most, none at first");
        due.is("count(7)", x.count(7), 0);
        due.is("unsee", x.unsee(), 0);
        due.sentence("THE SEED, a long; 0 at first");
        due.is("seed", x.seed(1), 0);
        due.sentence("STATE: none were kept");
        due.is("again(0)", x.again(0), STATE);
        due.is("again(1)", x.again(1), STATE);
        due.sentence("A NIGHT: THE NIGHT then");
        due.is("a night with nobody", x.night(), 1);
        due.is("an act all the same", x.count(6), 1);
    }

    private static void calls() {
        due.sentence("An object is used for at most 512 calls after it has been made");
        CenturyBeds x = new CenturyBeds();
        for (int i = 1; i <= 512; i++) {
            due.is("call " + i + ", night", x.night(), i);
        }
    }

    private static void letters() {
        due.sentence("A letter (0 to 255) comes behind THE TEXT: how long it is.");
        for (int from = 0; from < 256; from += 44) {
            CenturyBeds x = new CenturyBeds();
            for (int i = 0; i < 44 && from + i < 256; i++) {
                due.is("write(" + (from + i) + ")", x.write(from + i), i + 1);
            }
        }
        due.sentence("FULL: there are 44.");
        CenturyBeds x = new CenturyBeds();
        Due.write(x, "B" + SIX + "S01S11S21???");
        due.is("letters", x.count(0), 43);
        due.is("the 44th", x.write('?'), 44);
        due.is("the 45th", x.write('?'), FULL);
        due.is("the 45th, again", x.write('B'), FULL);
        due.is("letters", x.count(0), 44);
        due.is("fault", x.fault(), 40);
        due.is("wipe", x.wipe(), 44);
        due.is("write behind wipe", x.write('B'), 1);
        due.is("nothing of the old text is left", x.fault(), NONE);
    }

    private static void wiping() {
        due.sentence("THE TEXT is empty: how long it was.");
        CenturyBeds x = Due.made("BQ0530S01");
        due.is("wipe", x.wipe(), 9);
        due.is("wipe, empty", x.wipe(), 0);
        due.is("letters", x.count(0), 0);
        due.is("fault", x.fault(), 0);
        due.is("the bed stays", x.count(4), 1);
        due.is("its sleeper stays", x.sleeper(0, 2), 3);
        due.is("an empty text is no bed", x.bed(), STATE);
        due.is("the bed stays", x.count(1), 1);
    }

    private static int faultOf(String text) {
        CenturyBeds x = new CenturyBeds();
        Due.write(x, text);
        return x.fault();
    }

    /** Of all letters just these can come behind, and then the text is whole or still wants some. */
    private static void goOn(String text, String allowed, boolean whole) {
        for (char c = 0; c < 256; c++) {
            boolean can = allowed.indexOf(c) >= 0;
            int want = !can ? text.length() : whole ? NONE : text.length() + 1;
            String shown = text + " and letter " + (int) c;
            due.is("fault of " + shown, faultOf(text + c), want);
            if (!can) {
                due.is("fault of " + shown + ", B", faultOf(text + c + "B"), want);
                due.is("fault of " + shown + ", 0000", faultOf(text + c + "0000"), want);
                due.is("fault of " + shown + ", Q0000", faultOf(text + c + "Q0000"), want);
            }
        }
    }

    private static void beginnings() {
        due.sentence("A BED is a TEXT: B, then PARTS, none or more");
        goOn("", "B", true);
        goOn("B", "QS", false);
        goOn("BQ0530", "QS", false);
        goOn("BS01", "QS", false);
        due.is("none", faultOf("B"), NONE);
        due.is("one", faultOf("BQ0530"), NONE);
        due.is("more", faultOf("BQ0530S01Q0530"), NONE);
    }

    private static void blanketLetters() {
        due.sentence("CELLS are 0 to 5 in a row");
        goOn("BQ", "012345", false);
        due.sentence("a BLANKET on CELLS a to b (b no less than a)");
        goOn("BQ0", "012345", false);
        goOn("BQ1", "12345", false);
        goOn("BQ4", "45", false);
        goOn("BQ5", "5", false);
        due.sentence("CENTURIES 0 to 9");
        goOn("BQ05", "0123456789", false);
        goOn("BQ55", "0123456789", false);
        due.sentence("of KIND k: 0 PLAIN, 1 SHEET, 2 QUILT, 3 MOTHED");
        goOn("BQ050", "0123", true);
        goOn("BQ559", "0123", true);
    }

    private static void sleeperLetters() {
        due.sentence("a SLEEPER .. from CELL p on");
        goOn("BS", "012345", false);
        due.sentence("on w CELLS (1 to 3) from CELL p on (all of them are CELLS ..)");
        goOn("BS0", "123", true);
        goOn("BS3", "123", true);
        goOn("BS4", "12", true);
        goOn("BS5", "1", true);
    }

    private static void sleeperPlaces() {
        due.sentence("nobody told ahead lies on one of them");
        goOn("BS22S", "0145", false);
        goOn("BS22S0", "12", true);
        goOn("BS22S1", "1", true);
        goOn("BS22S4", "12", true);
        goOn("BS02S", "2345", false);
        goOn("BS51S", "01234", false);
        goOn("BS51S3", "12", true);
        goOn("BS51S4", "1", true);
        goOn("BS01S21S", "1345", false);
        goOn("BS01S21S1", "1", true);
        goOn("BS01Q0500S21Q0500S", "1345", false);
        due.is("beside one another, in any order", faultOf("BS42S02S22"), NONE);
        // No letter can come behind S, for nobody can lie anywhere.
        due.is("no cell is left", faultOf("BS03S33S"), 7);
        goOn("BS03S33", "Q", false);
        due.is("no cell is left", faultOf("BS33S03S"), 7);
        due.is("one cell is left", faultOf("BS03S32S"), 8);
        goOn("BS03S32S", "5", false);
    }

    private static void limitsOfParts() {
        due.sentence("BLANKETS (6 at most)");
        goOn("B" + SIX.substring(0, 25), "QS", false);
        goOn("B" + SIX, "S", false);
        due.is("the seventh", faultOf("B" + SIX + "Q0000"), 31);
        due.is("the seventh, behind a sleeper", faultOf("B" + SIX + "S01Q0000"), 34);
        due.sentence("SLEEPERS (3 at most)");
        goOn("BS01S11", "QS", false);
        goOn("BS01S11S21", "Q", false);
        due.is("the fourth", faultOf("BS01S11S21S31"), 10);
        due.is("the fourth, behind a blanket", faultOf("BS01S11S21Q0000S31"), 15);
        goOn("B" + SIX + "S01S11S21", "", true);
        due.sentence("numbered as they are told, each for itself");
        CenturyBeds x = Due.made("BS41Q0510S02Q1123Q2231S31");
        due.is("three of each", x.count(1) * 10 + x.count(2), 33);
        int[] centuries = {1, 2, 3};
        int[] places = {4, 0, 3};
        for (int i = 0; i < 3; i++) {
            due.is("blanket " + i, x.blanket(i, 2), centuries[i]);
            due.is("sleeper " + i, x.sleeper(i, 0), places[i]);
        }
        due.sentence("it lies on top of those told ahead");
        for (int i = 0; i < 3; i++) {
            due.is("below blanket " + i, x.blanket(i, 4), i);
        }
        due.is("from the lowest on", x.count(4), 123);
    }

    private static void unfinished() {
        due.sentence("its length, if it is only not at its end");
        String text = "BQ1593S03";
        int[] want = {0, NONE, 2, 3, 4, 5, NONE, 7, 8, NONE};
        for (int i = 0; i < want.length; i++) {
            due.is("fault of " + text.substring(0, i), faultOf(text.substring(0, i)), want[i]);
        }
        due.is("the longest that is not at its end", faultOf("B" + SIX + "S01S11S2"), 39);
        due.is("the longest bed", faultOf("B" + SIX + "S01S11S21"), NONE);
    }

    private static void firstFault() {
        due.sentence("the place of the first letter by which THE TEXT can be no BED, whatever came behind it");
        due.is("two faults", faultOf("BQ6x"), 2);
        due.is("a fault and an end that is missing", faultOf("BQ54Q"), 3);
        due.is("a fault in a part, a bed behind it", faultOf("BQ0504S01"), 5);
        due.is("no bed begins later", faultOf("xBQ0500"), 0);
        due.is("a part that is cut short", faultOf("BQ00S01"), 4);
        due.is("the last letter", faultOf("BQ0500S01x"), 9);
        StringBuilder full = new StringBuilder("B");
        for (int i = 1; i < 44; i++) {
            full.append('B');
        }
        due.is("a full text", faultOf(full.toString()), 1);
        due.sentence("(its length set aside)");
        due.is("a full text, at its 41st letter", faultOf("B" + SIX + "S01S11S21Q000"), 40);
        due.is("a full text of sleepers too many", faultOf("B" + SIX + "S01S11S21SSSS"), 40);
    }

    private static void bedRefused() {
        due.sentence("STATE: a FAULT.");
        String[] wrong = {"", "x", "BQ", "BQ6", "BQ050", "BQ0504", "BS", "BS0", "BS04", "BS43", "BS01S01", "BB",
            "BS03S33S", "B" + SIX + "Q", "BS01S11S21S"};
        for (String text : wrong) {
            CenturyBeds x = Due.made("BQ0530S02");
            x.night();
            x.keep(0);
            x.wipe();
            Due.write(x, text);
            due.is("bed of " + text, x.bed(), STATE);
            due.is("blankets that stay", x.count(4), 1);
            due.is("sleepers that stay", x.sleeper(0, 3), 8);
            due.is("night that stays", x.count(3), 1);
            due.is("acts that stay", x.count(6), 1);
            due.is("text that stays", x.count(0), text.length());
            due.is("what was kept stays", x.again(0), 1);
        }
    }

    private static void made(String text, int want) {
        CenturyBeds x = new CenturyBeds();
        Due.write(x, text);
        due.is("bed of " + text, x.bed(), want);
        due.is("letters of " + text, x.count(0), text.length());
        due.is("bed of " + text + " again", x.bed(), want);
    }

    private static void bedMade() {
        due.sentence("THE TEXT is THE BED: 10 times BLANKETS, and SLEEPERS.");
        made("B", 0);
        made("BQ0000", 10);
        made("BS01", 1);
        made("BS01S11S21", 3);
        made("B" + SIX, 60);
        made("B" + SIX + "S01S11S21", 63);
    }

    private static void bedAnew() {
        CenturyBeds x = States.made(States.FULL_UP);
        long seed = x.seed(0);
        x.seed(seed);
        Due.make(x, "BQ0590S02");
        due.sentence("THE ROW of ACTS is empty");
        due.is("acts", x.count(6), 0);
        due.is("undo", x.undo(), STATE);
        due.sentence("what was kept is gone");
        due.is("again(0)", x.again(0), STATE);
        due.is("again(1)", x.again(1), STATE);
        due.sentence("SEEN, THE SEED stay");
        due.is("seen", x.count(7), 6);
        due.is("seed", x.seed(0), seed);
        due.sentence("THE NIGHT is 0, nobody has woken, when THE BED is made anew.");
        due.is("night", x.count(3), 0);
        due.is("woken", x.sleeper(0, 3), 0);
        due.is("place", x.sleeper(0, 0), 0);
        due.is("one blanket is left", x.blanket(1, 0), UNKNOWN);
        due.is("one sleeper is left", x.sleeper(1, 0), UNKNOWN);
        due.is("it is the new one", x.blanket(0, 2), 9);
        due.is("the first night", x.night(), 1);
        due.is("woken", x.sleeper(0, 3), 1 << 9);
        due.is("the same text anew", x.bed(), 11);
        due.is("night", x.count(3), 0);
        due.is("woken", x.sleeper(0, 3), 0);
        Due.make(x, "BS31S01S21");
        due.is("nobody has woken", x.sleeper(0, 3) + x.sleeper(1, 3) + x.sleeper(2, 3), 0);
        due.is("nothing lies", x.count(4), 0);
    }
}
