/** Compares answers with the ones that are due, and ends a test's program. */
final class Due {
    private final String test;
    private int calls;
    private int wrong;

    Due(String test) {
        this.test = test;
    }

    void is(String call, long got, long want) {
        calls++;
        if (got != want) {
            wrong++;
            System.out.println(test + ": " + call + " answered " + got + ", due is " + want);
        }
    }

    boolean allAsDue() {
        return wrong == 0;
    }

    void end() {
        System.out.println(test + ": " + calls + " answers, " + wrong + " not as due");
        if (wrong != 0) {
            System.exit(1);
        }
    }

    /** Appends a text character by character. */
    static void type(FeedAxis axis, String text) {
        for (int i = 0; i < text.length(); i++) {
            axis.appendCharacter(text.charAt(i));
        }
    }

    /** What load() answers to a text; the text is empty afterwards. */
    static int loading(FeedAxis axis, String text) {
        axis.clearText();
        type(axis, text);
        int answer = axis.load();
        axis.clearText();
        return answer;
    }
}
