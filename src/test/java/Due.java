/** Counts and prints answers that are not as due, and makes beds from texts. */
final class Due {
    private final String test;
    private String sentence = "";
    private int wrong;

    Due(String test) {
        this.test = test;
    }

    /** What follows would fail if this sentence of the document were broken. */
    void sentence(String told) {
        sentence = " (\"" + told + "\")";
    }

    void is(String call, long got, long want) {
        if (got != want) {
            wrong++;
            System.out.println(test + ": " + call + " answered " + got + ", due is " + want + sentence);
        }
    }

    void same(String what, String got, String want) {
        if (!got.equals(want)) {
            wrong++;
            System.out.println(test + ": " + what + "\n  tells  " + got + "\n  due is " + want + sentence);
        }
    }

    boolean allWell() {
        return wrong == 0;
    }

    void end() {
        if (wrong != 0) {
            System.out.println(test + ": " + wrong + " answers are not as due");
            System.exit(1);
        }
    }

    static void write(CenturyBeds x, String text) {
        for (int i = 0; i < text.length(); i++) {
            x.write(text.charAt(i));
        }
    }

    static CenturyBeds made(String text) {
        CenturyBeds x = new CenturyBeds();
        make(x, text);
        return x;
    }

    /** The bed is made anew from another text. */
    static void make(CenturyBeds x, String text) {
        x.wipe();
        write(x, text);
        if (x.bed() < 0) {
            throw new IllegalStateException("the test's own text is no bed: " + text);
        }
    }
}
