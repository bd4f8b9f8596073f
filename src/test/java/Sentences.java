import java.io.IOException;
import java.nio.file.Files;
import java.nio.file.Path;
import java.util.ArrayList;
import java.util.List;

/**
 * src/test/sentences.txt: the document sentence by sentence, and for each sentence small breaks of the class with
 * the test that sees them:
 *
 *   > the sentence, as it stands in the document
 *   - what stands in the class (once), a line of it behind each '- '
 *   + what would break the sentence, instead of that
 *   = the test, and which of its runs fails then
 *   ~ or why there is nothing to break
 */
final class Sentences {
    static final Path FILE = Path.of("src/test/sentences.txt");

    record Patch(String old, String broken) { }

    record Break(int line, List<Patch> patches, String test, String run) {
        boolean fits(String source) {
            return patches.stream().allMatch(p -> timesIn(source, p.old()) == 1);
        }

        String applyTo(String source) {
            String text = source;
            for (Patch p : patches) {
                text = text.replace(p.old(), p.broken());
            }
            return text;
        }

        private static int timesIn(String source, String part) {
            int times = 0;
            for (int at = source.indexOf(part); at >= 0; at = source.indexOf(part, at + 1)) {
                times++;
            }
            return times;
        }
    }

    record Sentence(int line, String text, String reason, List<Break> breaks) { }

    final List<Sentence> all = new ArrayList<>();

    private final List<Patch> patches = new ArrayList<>();
    private final StringBuilder old = new StringBuilder();
    private final StringBuilder broken = new StringBuilder();
    private int oldLines = 0;
    private int brokenLines = 0;

    private Sentences() { }

    static Sentences read() throws IOException {
        Sentences s = new Sentences();
        int line = 0;
        for (String text : Files.readAllLines(FILE)) {
            line++;
            s.take(line, text);
        }
        return s;
    }

    private void take(int line, String text) {
        if (text.isEmpty() || text.startsWith("#")) {
            return;
        }
        String rest = text.length() < 2 ? "" : text.substring(2);
        switch (text.charAt(0)) {
            case '>': all.add(new Sentence(line, rest, null, new ArrayList<>())); break;
            case '~': giveReason(line, rest); break;
            case '-': takeOld(rest); break;
            case '+': brokenLines = append(broken, brokenLines, rest); break;
            case '=': endBreak(line, rest); break;
            default: throw new IllegalStateException(FILE + ", line " + line + ": " + text);
        }
    }

    private Sentence last(int line) {
        if (all.isEmpty()) {
            throw new IllegalStateException(FILE + ", line " + line + ": no sentence yet");
        }
        return all.get(all.size() - 1);
    }

    private void giveReason(int line, String reason) {
        Sentence s = last(line);
        all.set(all.size() - 1, new Sentence(s.line(), s.text(), reason, s.breaks()));
    }

    private void takeOld(String text) {
        if (brokenLines > 0) {
            endPatch();
        }
        oldLines = append(old, oldLines, text);
    }

    private static int append(StringBuilder b, int lines, String text) {
        b.append(lines == 0 ? "" : "\n").append(text);
        return lines + 1;
    }

    private void endPatch() {
        patches.add(new Patch(old.toString(), broken.toString()));
        old.setLength(0);
        broken.setLength(0);
        oldLines = 0;
        brokenLines = 0;
    }

    private void endBreak(int line, String seenBy) {
        endPatch();
        int cut = seenBy.indexOf(" | ");
        String test = cut < 0 ? seenBy : seenBy.substring(0, cut);
        last(line).breaks().add(new Break(line, List.copyOf(patches), test, cut < 0 ? "" : seenBy.substring(cut + 3)));
        patches.clear();
    }
}
