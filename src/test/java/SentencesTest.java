import java.io.IOException;
import java.nio.file.Files;
import java.nio.file.Path;
import java.util.stream.Collectors;

/**
 * Each sentence of the document has a test: src/test/sentences.txt has all of the document, in its order, and names
 * for each sentence the runs that fail when it is broken; here it is seen to that they are there. That they do fail
 * then is what .ci/breaks sees, by hand.
 */
public final class SentencesTest {
    private static final Path DOCUMENT = Path.of("../shared/DOC.md"), CLASS = Path.of("src/main/java/TrunkRoom.java");
    private static int wrong = 0;
    private static int breaks = 0;
    private static int unfit = 0;

    private SentencesTest() { }

    public static void main(String[] args) throws IOException {
        Sentences sentences = Sentences.read();
        whole(sentences);
        String source = Files.readString(CLASS);
        for (Sentences.Sentence s : sentences.all) {
            see(s.breaks().isEmpty() != (s.reason() == null), s.line(), "either breaks or a reason why there are none");
            for (Sentences.Break b : s.breaks()) {
                see(isThere(b), b.line(), "there is no such run: " + b.test() + " | " + b.run());
                breaks++;
                unfit += b.fits(source) ? 0 : 1;
            }
        }
        System.out.println(sentences.all.size() + " sentences, " + breaks + " breaks"
                + (unfit == 0 ? "" : ", of which " + unfit + " fit the class no more (see .ci/breaks)"));
        if (wrong != 0) {
            System.exit(1);
        }
    }

    private static void see(boolean good, int line, String what) {
        if (!good) {
            wrong++;
            System.out.println(Sentences.FILE + ", line " + line + ": " + what);
        }
    }

    /** The sentences put together are the document, but for its headings and fences. */
    private static void whole(Sentences sentences) throws IOException {
        String document = Files.readAllLines(DOCUMENT).stream()
                .filter(l -> !l.startsWith("#") && !l.startsWith("```")).collect(Collectors.joining(" "));
        String want = oneBlank(document);
        int at = 0;
        for (Sentences.Sentence s : sentences.all) {
            String text = oneBlank(s.text());
            if (!want.startsWith(text, at)) {
                see(false, s.line(), "the document has here: " + want.substring(at, Math.min(want.length(), at + 80)));
                return;
            }
            at = Math.min(want.length(), at + text.length() + 1);
        }
        see(at == want.length(), 0, "of the document is missing: " + want.substring(at));
    }

    private static String oneBlank(String text) {
        return text.replaceAll("\\s+", " ").strip();
    }

    private static boolean isThere(Sentences.Break b) throws IOException {
        Path test = Path.of("src/test/java/" + b.test() + ".java");
        // a run that bears a text of an ORDER as its name is put together by its test, and not found there
        boolean found = b.run().isEmpty() || b.run().contains("'");
        return Files.exists(test) && (found || Files.readString(test).contains('"' + b.run() + '"'));
    }
}
