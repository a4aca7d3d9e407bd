import java.io.IOException;
import java.util.ArrayList;
import java.util.LinkedHashMap;
import java.util.List;
import java.util.Map;

/**
 * Keeps a test for each sentence of the document. A test quotes the sentence that it belongs to; in
 * the end each quote must stand in the document under its heading, and each sentence of the document
 * must have been quoted, once.
 */
final class Sentences {
    private static final Map<String, List<String>> QUOTED = new LinkedHashMap<>();
    private static String heading = "";
    private static int tested = 0;
    private static int untestable = 0;

    private Sentences() {
    }

    static void under(String newHeading) {
        heading = newHeading;
        QUOTED.put(heading, new ArrayList<>());
    }

    static void test(String sentence, Runnable test) {
        QUOTED.get(heading).add(sentence);
        tested++;
        Check.about(heading + ": \"" + sentence + "\"");
        int before = Check.made();
        try {
            test.run();
        } catch (RuntimeException e) {
            Check.isTrue("no throw where none is due, but " + e, false);
        }
        Check.isTrue("the test looks at answers", Check.made() > before);
        Check.about("");
    }

    /** For a sentence that no answer could break. */
    static void noTest(String sentence) {
        QUOTED.get(heading).add(sentence);
        untestable++;
    }

    static void compareWithDocument() throws IOException {
        Map<String, List<String>> told = Document.sentences();
        Check.isTrue("the document has sentences", told.size() > 2);
        for (String section : told.keySet()) {
            List<String> untested = new ArrayList<>(told.get(section));
            for (String quote : QUOTED.getOrDefault(section, List.of())) {
                Check.isTrue("the document says under \"" + section + "\": " + quote,
                        untested.remove(quote));
            }
            for (String sentence : untested) {
                Check.isTrue("a test quotes \"" + section + "\": " + sentence, false);
            }
        }
        for (String section : QUOTED.keySet()) {
            Check.isTrue("the document has the heading " + section, told.containsKey(section));
        }
        System.out.println(tested + " sentences have a test, " + untestable + " can't have one");
    }
}
