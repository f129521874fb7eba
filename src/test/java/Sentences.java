import java.io.IOException;
import java.nio.file.Files;
import java.nio.file.Path;
import java.util.Arrays;
import java.util.TreeSet;

/** Holds answers against sentences of the document, each quoted word for word ahead of its test. */
final class Sentences {
    private static final Path DOC = Path.of("../shared/DOC.md");
    private static final String HEADING = "## Promise ";

    private final Check check = new Check();
    private final TreeSet<Integer> quoted = new TreeSet<>();
    private final String doc;
    private String now = "";

    Sentences() {
        doc = read();
    }

    private static String read() {
        try {
            return Files.readString(DOC);
        } catch (IOException e) {
            System.out.println("no " + DOC + ": what is quoted from it is not compared");
            return null;
        }
    }

    /** The answers that follow are due by these words, which stand ahead of the first promise. */
    void terms(String words) {
        now = "Terms: " + words;
        check.holds("quoted from " + now, doc == null || section(0).contains(words));
    }

    /** The answers that follow are due by these words of a promise. */
    void promise(int n, String words) {
        now = "Promise " + n + ": " + words;
        quoted.add(n);
        check.holds("quoted from " + now, doc == null || section(n).contains(words));
    }

    private String section(int promise) {
        int from = promise == 0 ? 0 : doc.indexOf(HEADING + promise + ":");
        int to = doc.indexOf(HEADING + (promise + 1) + ":");
        return from < 0 ? "" : doc.substring(from, to < 0 ? doc.length() : to);
    }

    void due(String call, long got, long want) {
        check.due(now + " | " + call, got, want);
    }

    void holds(String what, boolean holds) {
        check.holds(now + " | " + what, holds);
    }

    /** Ends the test; each of these promises must have been quoted. */
    void end(int first, int last) {
        now = "";
        for (int n = first; n <= last; n++) {
            check.holds("promise " + n + " is quoted", quoted.contains(n));
        }
        check.end();
    }

    /** Numbers just outside of a range, and such as would lie in it if they were cut to a byte or a short. */
    static int[] outside(int least, int greatest) {
        int[] some = {least - 1, greatest + 1, least - 256, least + 256, greatest + 256, least + 65536, greatest - 65536,
            Integer.MIN_VALUE, Integer.MIN_VALUE + least, Integer.MAX_VALUE};
        return Arrays.stream(some).filter(n -> n < least || n > greatest).distinct().toArray();
    }
}
