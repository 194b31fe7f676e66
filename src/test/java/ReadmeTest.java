import java.io.IOException;
import java.nio.file.Files;
import java.nio.file.Path;
import java.util.HashMap;
import java.util.Map;
import java.util.regex.Matcher;
import java.util.regex.Pattern;

/** What README.md tells about the class: its example, and its table of calls. */
public final class ReadmeTest {
    private static final Due DUE = new Due("ReadmeTest");
    private static final Pattern EXAMPLE = Pattern.compile("axis\\.(\\w+)\\(([^)]*)\\); +// answers (-?\\d+).*");
    private static final Pattern ROW = Pattern.compile("\\| `(\\w+)\\(([^)]*)\\)` \\|.*\\|([ ISCN]*)\\|");
    // The error codes of each call, in the order in which the document names them.
    private static final String[] CALLS = {
        "setNumber I", "setLoad I S C", "setComb I S C", "setFlag I", "appendCharacter I C", "clearText", "load",
        "moveTo I S", "addCommand I C", "run I S", "home I S N", "check I S N", "correct I S", "keep I", "back I S",
        "undo S", "count I", "account I", "loadAt I", "errorAt I", "command I N", "flag I N", "why I", "losses I N",
        "fastest I N", "counter I",
    };

    public static void main(String[] args) throws IOException {
        String[] lines = Files.readString(Path.of("README.md")).split("\n");
        exampleAnswersWhatItSays(lines);
        tableNamesEveryCall(lines);
        DUE.end();
    }

    private static void exampleAnswersWhatItSays(String[] lines) {
        FeedAxis axis = new FeedAxis();
        int calls = 0;
        for (String line : lines) {
            Matcher call = EXAMPLE.matcher(line);
            if (call.matches()) {
                String words = (call.group(1) + " " + call.group(2).replace(",", "")).trim();
                DUE.is("README.md: " + line, Lines.make(axis, words), Integer.parseInt(call.group(3)));
                calls++;
            }
        }
        DUE.is("README.md has an example", calls > 5 ? 1 : 0, 1);
    }

    private static void tableNamesEveryCall(String[] lines) {
        Map<String, String> rows = new HashMap<>();
        for (String line : lines) {
            Matcher row = ROW.matcher(line);
            if (row.matches()) {
                rows.put(row.group(1), (row.group(1) + " " + row.group(3).trim()).trim());
            }
        }
        for (String call : CALLS) {
            String name = call.split(" ")[0];
            DUE.is("README.md tells " + call, call.equals(rows.get(name)) ? 1 : 0, 1);
        }
        DUE.is("README.md's calls", rows.size(), CALLS.length);
    }
}
