import java.io.IOException;
import java.nio.file.Files;
import java.nio.file.Path;
import java.util.ArrayList;
import java.util.LinkedHashMap;
import java.util.List;
import java.util.Map;

/**
 * Tests by the document's own words: a sentence is quoted, and the calls behind it ask for what it
 * says. In the end all that the asked sections say must have been quoted, so that no sentence is
 * left without calls.
 */
abstract class Sentences {
    static final int NONE = HedgeMaze.NONE;
    private static final Path DOCUMENT = Path.of("../shared/DOC.md");

    final Checker check = new Checker();
    /** The object that is asked. */
    HedgeMaze x = new HedgeMaze();
    private final Map<String, List<String>> quotes = new LinkedHashMap<>();
    private String section = "";

    /** What follows is about a section of the document: the beginning of its heading. */
    final void section(String heading) {
        section = heading;
        quotes.putIfAbsent(heading, new ArrayList<>());
    }

    /** What follows is about a promise. */
    final void promise(int number) {
        section("Promise " + number + ":");
    }

    final void says(String sentence) {
        quotes.get(section).add(sentence);
        check.about(section + " '" + sentence + "'");
    }

    final void fresh() {
        x = new HedgeMaze();
    }

    final void told(String text) {
        x = Checker.told(text);
    }

    final void due(String call, int want) {
        check.due(call, Calls.ask(x, call), want);
    }

    /** Calls that all have one answer. */
    final void all(int want, String... calls) {
        for (String call : calls) {
            due(call, want);
        }
    }

    /** The answers of a call for the numbers 0, 1, .. in place of the sign #. */
    final void each(String call, int... wants) {
        for (int i = 0; i < wants.length; i++) {
            due(call.replace("#", Integer.toString(i)), wants[i]);
        }
    }

    final void fill(int slot, int width, long... numbers) {
        Checker.fill(x, slot, width, numbers);
    }

    /** A text that a new object reads as a maze of so many lines. */
    final void reads(String text, int lines) {
        fresh();
        Checker.lay(x, text);
        check.due("maze() of " + text, x.maze(), lines);
        check.due("fault(0) of " + text, x.fault(0), 0);
        check.due("fault(1) of " + text, x.fault(1), NONE);
        check.due("count(6) of " + text, x.count(6), lines);
    }

    /** A text in which a new object finds a fault. */
    final void spoilt(String text, int fault, int place) {
        fresh();
        Checker.lay(x, text);
        check.due("maze() of " + text, x.maze(), -4);
        check.due("fault(0) of " + text, x.fault(0), fault);
        check.due("fault(1) of " + text, x.fault(1), place);
    }

    /** A text with a sign @ ahead of the token at which the fault is. */
    final void spoiltAt(String text, int fault) {
        spoilt(text.replace("@", ""), fault, text.indexOf('@'));
    }

    final void finishPromises(int first, int last) {
        for (int number = first; number <= last; number++) {
            check.about("promise " + number);
            check.holds("is quoted", quotes.containsKey("Promise " + number + ":"));
        }
        finish();
    }

    final void finish() {
        try {
            if (Files.exists(DOCUMENT)) {
                holdAgainst(Files.readString(DOCUMENT));
            }
        } catch (IOException unreadable) {
            check.about("the document");
            check.holds("can be read", false);
        }
        check.finish(getClass().getName());
    }

    private void holdAgainst(String document) {
        for (Map.Entry<String, List<String>> entry : quotes.entrySet()) {
            check.about(entry.getKey());
            String left = textOf(document, entry.getKey());
            for (String quote : entry.getValue()) {
                check.holds("the document says: " + quote, left.contains(quote));
                left = left.replaceFirst(java.util.regex.Pattern.quote(quote), " ");
            }
            check.holds("there are calls for: " + left.trim(), !left.matches(".*[A-Za-z0-9].*"));
        }
    }

    /** A section's text in one line, without its head: what is written as code in front. */
    private static String textOf(String document, String heading) {
        int start = document.indexOf("\n## " + heading);
        if (start < 0) {
            return "a section that is missing";
        }
        int begin = document.indexOf('\n', start + 1);
        int end = document.indexOf("\n## ", begin);
        String text = document.substring(begin, end < 0 ? document.length() : end);
        return text.replace("```text", " ").replace("```", " ")
            .replaceFirst("(?s)^\\s*`[^`]*`:", " ").replaceAll("\\s+", " ");
    }
}
