import java.io.IOException;
import java.io.UncheckedIOException;
import java.nio.file.Files;
import java.nio.file.Path;
import java.util.ArrayList;
import java.util.List;

/**
 * A test of the document's sentences that name boundary cases: each is quoted and then held to the answers behind it.
 * A quote that the document does not have, or that no answer is asked for, fails too.
 */
abstract class Edges extends Laying {
    private static final Path DOCUMENT = Path.of("../shared/DOC.md");
    private static final String CLAUSE = "(BAD|NOT SO|OPEN|BIG|NOTHING|PLACE|SORT|SIZE)\\b.*";
    /** The number under which the words ahead of promise 1 are quoted. */
    static final int TERMS = 0;
    static final int PROMISES = 41;
    static final String ORDER = "what is wrong is asked in the order in which it is told";

    private final Due due = new Due();
    private final String[] texts;
    private final List<List<String>> quoted = new ArrayList<>();
    private String label = "";
    private int answers = 1;

    Edges() {
        try {
            texts = Files.readString(DOCUMENT).split("## Promise \\d+: |## Not promised");
        } catch (IOException e) {
            throw new UncheckedIOException(e);
        }
        due.due("parts of the document", texts.length, PROMISES + 2);
        for (int promise = 0; promise <= PROMISES; promise++) {
            quoted.add(new ArrayList<>());
        }
    }

    final void sentence(int promise, String words) {
        endOfSentence();
        label = (promise == TERMS ? "terms" : "promise " + promise) + ", \"" + words + "\": ";
        answers = 0;
        due.due(label + "the document says so", texts[promise].contains(words) ? 1 : 0, 1);
        quoted.get(promise).add(words);
    }

    private void endOfSentence() {
        due.due(label + "is held to answers", answers > 0 ? 1 : 0, 1);
    }

    final void due(String call, long got, long want) {
        answers++;
        due.due(label + call, got, want);
    }

    final void dueSays(String call, QuestionBench b, int p, String want) {
        String got = saysOf(b, p);
        due(call + " made " + got + " where " + want + " is due: alike", got.equals(want) ? 1 : 0, 1);
    }

    /** Each finding that these promises tell must have been quoted with all its words. */
    final void end(int first, int last) {
        endOfSentence();
        for (int promise = first; promise <= last; promise++) {
            due.due("promise " + promise + " is quoted", quoted.get(promise).isEmpty() ? 0 : 1, 1);
            for (String clause : texts[promise].split("[;.](\\s|$)")) {
                if (clause.trim().matches(CLAUSE)) {
                    boolean has = quoted.get(promise).stream().anyMatch(words -> words.contains(clause.trim()));
                    due.due("promise " + promise + ": the finding \"" + clause.trim() + "\" is quoted", has ? 1 : 0, 1);
                }
            }
        }
        due.end();
    }
}
