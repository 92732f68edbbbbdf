/** Counts and prints answers that are not as due, and makes beds from texts. */
final class Due {
    private final String test;
    private int wrong;

    Due(String test) {
        this.test = test;
    }

    void is(String call, long got, long want) {
        if (got != want) {
            wrong++;
            System.out.println(test + ": " + call + " answered " + got + ", due is " + want);
        }
    }

    boolean allWell() {
        return wrong == 0;
    }

    void end() {
        if (wrong != 0) {
            System.out.println(test + ": " + wrong + " answers are not as due");
            System.exit(1);
        }
    }

    static void write(CenturyBeds x, String text) {
        for (int i = 0; i < text.length(); i++) {
            x.write(text.charAt(i));
        }
    }

    static CenturyBeds made(String text) {
        CenturyBeds x = new CenturyBeds();
        write(x, text);
        if (x.bed() < 0) {
            throw new IllegalStateException("the test's own text is no bed: " + text);
        }
        return x;
    }
}
