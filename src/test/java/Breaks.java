import java.io.File;
import java.io.IOException;
import java.nio.file.Files;
import java.nio.file.Path;
import java.util.ArrayList;
import java.util.List;
import java.util.concurrent.ExecutorService;
import java.util.concurrent.Executors;
import java.util.concurrent.Future;
import javax.tools.ToolProvider;

/**
 * Breaks the class in each of the ways of src/test/sentences.txt and sees to it that the run named there fails then.
 * It takes some minutes, so .ci/breaks runs it by hand; '.ci/breaks 100 200' does those of the lines 100 to 200.
 */
final class Breaks {
    private static final Path CLASS = Path.of("src/main/java/TrunkRoom.java");

    private final String source = Files.readString(CLASS);
    private final Path tests;
    private final Path work = Files.createTempDirectory("breaks");

    private Breaks(Path testsAt) throws IOException {
        tests = testsAt;
    }

    /** args: where the compiled tests are, then the first and the last line, if not all. */
    public static void main(String[] args) throws Exception {
        int from = args.length > 1 ? Integer.parseInt(args[1]) : 0;
        int to = args.length > 2 ? Integer.parseInt(args[2]) : Integer.MAX_VALUE;
        Breaks breaks = new Breaks(Path.of(args[0]));
        ExecutorService pool = Executors.newFixedThreadPool(Runtime.getRuntime().availableProcessors());
        List<Future<String>> answers = new ArrayList<>();
        for (Sentences.Sentence s : Sentences.read().all) {
            for (Sentences.Break b : s.breaks()) {
                if (b.line() >= from && b.line() <= to) {
                    answers.add(pool.submit(() -> breaks.unseen(b)));
                }
            }
        }
        int unseen = 0;
        for (Future<String> answer : answers) {
            if (answer.get() != null) {
                unseen++;
                System.out.println(answer.get());
            }
        }
        pool.shutdown();
        System.out.println(answers.size() + " breaks, " + unseen + " not seen");
        System.exit(unseen == 0 ? 0 : 1);
    }

    /** Why the break is not seen; null: it is. */
    private String unseen(Sentences.Break b) throws IOException, InterruptedException {
        String at = Sentences.FILE + ", line " + b.line() + ": ";
        if (!b.fits(source)) {
            return at + "fits the class no more";
        }
        Path dir = Files.createDirectories(work.resolve(String.valueOf(b.line())));
        Path file = Files.writeString(dir.resolve("TrunkRoom.java"), b.applyTo(source));
        if (ToolProvider.getSystemJavaCompiler().run(null, null, null, "-d", dir.toString(), file.toString()) != 0) {
            return at + "is no Java";
        }
        Process p = new ProcessBuilder("java", "-XX:TieredStopAtLevel=1", "-cp", dir + File.pathSeparator + tests,
                b.test()).redirectErrorStream(true).start();
        String said = new String(p.getInputStream().readAllBytes());
        boolean failed = p.waitFor() != 0 && (b.run().isEmpty() || ("\n" + said).contains("\n" + b.run() + " | "));
        return failed ? null : at + "not seen by " + b.test() + " | " + b.run();
    }
}
