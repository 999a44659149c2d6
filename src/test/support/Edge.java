import java.nio.file.Files;
import java.nio.file.Path;

/**
 * A test of its own for a sentence of the document: the sentence is looked up there, and told when
 * the test shows an answer that it does not ask for. .ci/run starts the tests at the root.
 */
public final class Edge {
    private static final String DOCUMENT = read();

    private Edge() {
    }

    /** The section is the beginning of a heading: "Terms", "Promise 2:" and so on. */
    public static void of(String section, String sentence, Runnable test) {
        Due.holds("the document says, under " + section + ": " + sentence, textOf(section).contains(sentence));
        int wrong = Due.wrongSoFar();
        int asked = Due.askedSoFar();
        test.run();
        Due.holds("the test of this sentence asks something: " + sentence, Due.askedSoFar() > asked);
        if (Due.wrongSoFar() > wrong) {
            System.out.println("    under " + section + ": " + sentence);
        }
    }

    private static String textOf(String section) {
        String head = "\n## " + section;
        int from = DOCUMENT.indexOf(head);
        if (from < 0) {
            return "";
        }
        int to = DOCUMENT.indexOf("\n## ", from + head.length());
        return DOCUMENT.substring(from + head.length(), to < 0 ? DOCUMENT.length() : to);
    }

    private static String read() {
        try {
            return "\n" + Files.readString(Path.of("../shared/DOC.md"));
        } catch (java.io.IOException e) {
            throw new IllegalStateException("the document is not at ../shared/DOC.md", e);
        }
    }
}
