import java.io.IOException;
import java.nio.file.Files;
import java.nio.file.Path;
import java.util.ArrayList;
import java.util.List;

/**
 * Tests of boundary cases, one for each sentence of the document that names one. A test gives the
 * promise it belongs to and the sentence's own words, and these are looked up in the document.
 */
final class Edges extends Check {
    interface Of {
        long answer(int number);
    }

    private static final Path DOCUMENT = Path.of("../shared/DOC.md");

    private final String document = read();
    private final List<Integer> promises = new ArrayList<>();
    private String sentence = "";
    private int askedOfThis;

    private static String read() {
        try {
            return Files.readString(DOCUMENT).replaceAll("\\s+", " ");
        } catch (IOException e) {
            throw new IllegalStateException("the document is not where it should be: " + DOCUMENT);
        }
    }

    /** Runs the test of one sentence. */
    void edge(int promise, String words, Runnable test) {
        sentence = "promise " + promise + " \"" + words + "\"";
        askedOfThis = 0;
        promises.add(promise);
        due("stands in the document", true, document.contains(words));
        try {
            test.run();
        } catch (RuntimeException e) {
            same("the test", "ends", "throws " + e);
        }
        due("is tested", true, askedOfThis > 1);
    }

    @Override
    void same(String what, String want, String got) {
        askedOfThis++;
        super.same(sentence + ": " + what, want, got);
    }

    /** Nothing of what can be seen of an object has changed. */
    void stays(String what, String before, ChalkWall x) {
        same(what, before, Seen.all(x));
    }

    /** A number from least to most is taken; one beside them is refused, counted, and nothing else. */
    void within(ChalkWall x, int least, int most, Of call) {
        due(least + " is taken", true, !outcome(() -> call.answer(least)).startsWith("throws"));
        due(most + " is taken", true, !outcome(() -> call.answer(most)).startsWith("throws"));
        beside(x, ILLEGAL, least, most, call);
    }

    /** There are so many; a number that is none of theirs is refused, counted, and nothing else. */
    void onlyTheFirst(ChalkWall x, int many, Of call) {
        beside(x, NO_SUCH, 0, many - 1, call);
    }

    private void beside(ChalkWall x, String thrown, int least, int most, Of call) {
        int noSuch = x.status(0);
        int illegal = x.status(1);
        for (int number : new int[] {least - 1, most + 1, Integer.MIN_VALUE, Integer.MAX_VALUE}) {
            same(number + " is refused", thrown, outcome(() -> call.answer(number)));
        }
        due("refused as no such", noSuch + (thrown.equals(NO_SUCH) ? 4 : 0), x.status(0));
        due("refused as wrong", illegal + (thrown.equals(ILLEGAL) ? 4 : 0), x.status(1));
    }

    /** Ends the program; each of these promises must have had a test. */
    void end(String name, int... wanted) {
        sentence = name;
        for (int promise : wanted) {
            due("has a test for promise " + promise, true, promises.contains(promise));
        }
        end(name + ", " + promises.size() + " sentences");
    }
}
