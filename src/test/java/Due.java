import java.util.ArrayList;
import java.util.List;

/** Compares answers with the ones that are due, and ends a test's program. */
final class Due {
    // The document promises nothing about an object after so many calls.
    private static final int MOST_CALLS = 512;

    private final String test;
    private String sentence = "";
    private int calls;
    private int wrong;

    Due(String test) {
        this.test = test;
    }

    /** Names the sentence of the document by which the answers from here on are due. */
    void sentence(String words) {
        sentence = words;
    }

    void is(String call, long got, long want) {
        calls++;
        if (got != want) {
            wrong++;
            System.out.println(test + ": " + call + " answered " + got + ", due is " + want);
            if (!sentence.isEmpty()) {
                System.out.println("    by: " + sentence);
            }
        }
    }

    /** Makes the calls of the lines on a new object; a line "moveTo 40 = 0" tells what is due, too. */
    void run(String... lines) {
        FeedAxis axis = new FeedAxis();
        int made = 0;
        for (String line : lines) {
            int split = line.lastIndexOf(" = ");
            String call = split < 0 ? line : line.substring(0, split);
            made += Lines.calls(call);
            int answer = Lines.make(axis, call);
            if (split >= 0) {
                is(call + whereIn(lines, line), answer, Lines.number(line.substring(split + 3)));
            }
        }
        within(made);
    }

    private static String whereIn(String[] lines, String line) {
        return " (in a run of " + lines.length + " lines: " + lines[0] + (lines[0].equals(line) ? ")" : " ..)");
    }

    /** The calls before, then one that answers a code: all that can be seen is as if it had not been made. */
    void refused(String[] before, String call, String code) {
        unchanged(before, call, Lines.number(code));
    }

    /** The same for a call that only looks, whatever it answers. */
    void onlyLooks(String[] before, String call, int due) {
        unchanged(before, call, due);
    }

    private void unchanged(String[] before, String call, int due) {
        for (int way = 0; way < Lines.WAYS_TO_SEE; way++) {
            FeedAxis axis = new FeedAxis();
            FeedAxis twin = new FeedAxis();
            int made = 0;
            for (String line : before) {
                made += Lines.calls(line);
                Lines.make(axis, line);
                Lines.make(twin, line);
            }
            if (way == 0) {
                is(call, Lines.make(axis, call), due);
            } else {
                Lines.make(axis, call);
            }
            List<String> names = new ArrayList<>();
            List<Integer> seen = new ArrayList<>();
            List<Integer> expected = new ArrayList<>();
            Lines.see(axis, way, names, seen);
            Lines.see(twin, way, new ArrayList<>(), expected);
            for (int i = 0; i < expected.size(); i++) {
                is(names.get(i) + " after " + call, seen.get(i), expected.get(i));
            }
            within(made + 1 + seen.size());
        }
    }

    private void within(int made) {
        if (made > MOST_CALLS) {
            is("a test's calls of one object", made, MOST_CALLS);
        }
    }

    boolean allAsDue() {
        return wrong == 0;
    }

    void end() {
        System.out.println(test + ": " + calls + " answers, " + wrong + " not as due");
        if (wrong != 0) {
            System.exit(1);
        }
    }

    /** Appends a text character by character. */
    static void type(FeedAxis axis, String text) {
        for (int i = 0; i < text.length(); i++) {
            axis.appendCharacter(text.charAt(i));
        }
    }

    /** What load() answers to a text; the text is empty afterwards. */
    static int loading(FeedAxis axis, String text) {
        axis.clearText();
        type(axis, text);
        int answer = axis.load();
        axis.clearText();
        return answer;
    }
}
