import java.io.IOException;
import java.nio.file.Files;
import java.nio.file.Path;

/**
 * The words of DOC.md between two headings, in order. A test that goes through them tells which words come
 * next, so that no sentence is left without a test; where DOC.md is not at hand, only the answers are looked at.
 */
final class Document {
    private static final Path FILE = Path.of("..", "shared", "DOC.md");

    private String words;
    private int at;

    private Document(String words) {
        this.words = words;
    }

    static Document between(String first, String last) throws IOException {
        if (!Files.isReadable(FILE)) {
            System.out.println("there is no " + FILE + " to compare the sentences with");
            return new Document(null);
        }
        String all = Files.readString(FILE);
        int from = all.indexOf(first);
        int to = last.isEmpty() ? all.length() : all.indexOf(last);
        boolean has = from >= 0 && to >= from;
        Due.is("DOC.md has " + first + " and " + last, has ? 1 : 0, 1);
        return new Document(has ? plain(all.substring(from, to)) : null);
    }

    /** The words alone: no headings, no fences, one blank between two words. */
    private static String plain(String part) {
        StringBuilder row = new StringBuilder();
        for (String line : part.split("\n")) {
            if (!line.startsWith("#") && !line.startsWith("```")) {
                row.append(line).append(' ');
            }
        }
        return row.toString().replaceAll("\\s+", " ").trim();
    }

    /** The words that come next, which the answers behind this call are due by. */
    void says(String next) {
        Due.sentence(next);
        if (words == null) {
            return;
        }
        int end = Math.min(words.length(), at + next.length());
        Due.is("DOC.md at this place", words.substring(at, end), next);
        if (!words.startsWith(next, at)) {
            // What comes behind can't be compared any more.
            words = null;
            return;
        }
        at = end < words.length() && words.charAt(end) == ' ' ? end + 1 : end;
    }

    /** Words that come next and promise no answer. */
    void leavesFree(String next) {
        says(next);
    }

    void ends() {
        Due.sentence("");
        if (words != null) {
            Due.is("what DOC.md says behind", words.substring(at), "");
        }
    }
}
