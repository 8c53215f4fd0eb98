import java.io.IOException;
import java.nio.file.Files;
import java.nio.file.Path;
import java.util.regex.Matcher;
import java.util.regex.Pattern;

/**
 * A part of the document, read from left to right: each text that a test names must be the next one, so
 * that no sentence is passed over. Marks of headings, lists and code are left out, and any number of
 * blanks and line ends counts as one blank.
 */
final class Document {
    /** The lines of the public face, in the place of which the text has [the face]. */
    final String[] face;
    private final String text;
    private int place = 0;

    /** The part that begins with a text and ends before another one; an empty one is the end. */
    Document(String first, String after) throws IOException {
        String whole = Files.readString(Path.of(System.getenv("HOLE_PUNCHER_DOCUMENT")));
        Matcher block = Pattern.compile("(?s)```java\n(.*?)```").matcher(whole);
        Check.isTrue("the document has a block of Java", block.find());
        face = block.group(1).split("\n");
        String plain = whole.replace(block.group(), "[the face]")
                .replaceAll("(?m)^(#+|-) ", "")
                .replace("`", "")
                .replaceAll("\\s+", " ")
                .trim();
        int begin = plain.indexOf(first);
        int end = after.isEmpty() ? plain.length() : plain.indexOf(after);
        Check.isTrue("the document has the part from \"" + first + "\"", begin >= 0 && end >= begin);
        text = plain.substring(Math.max(begin, 0), Math.max(end, 0));
    }

    /** The next text; the answers after this call are about it. */
    void says(String sentence) {
        reads(sentence);
        Check.sentence(sentence);
    }

    /** The next text, which says nothing that could be tried, or what is tried with the one after it. */
    void reads(String words) {
        // The sentence before ends here, so that reading on does not count as an answer about it.
        Check.sentence("");
        int found = text.indexOf(words, place);
        String before = found < 0 ? "nowhere" : text.substring(place, found).trim();
        Check.dueText("what stands before \"" + words + "\"", before, "");
        place = found < 0 ? place : found + words.length();
    }

    void ends() {
        Check.sentence("");
        Check.dueText("what stands at the end of the part", text.substring(place).trim(), "");
    }
}
