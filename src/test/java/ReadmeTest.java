import java.io.IOException;
import java.nio.charset.StandardCharsets;
import java.nio.file.Files;
import java.nio.file.Path;
import java.util.List;

/** The example in README.md: each call answers the number that stands behind it there. */
public final class ReadmeTest {
    private final List<String> lines;

    private ReadmeTest(List<String> lines) {
        this.lines = lines;
    }

    public static void main(String[] args) throws IOException {
        new ReadmeTest(Files.readAllLines(Path.of("README.md"), StandardCharsets.US_ASCII)).makeTheCalls();
        Check.end();
    }

    private void makeTheCalls() {
        BatchPipe x = new BatchPipe();
        answered("segment(20, 10, 200)", x.segment(20, 10, 200));
        answered("segment(30, 0, 200)", x.segment(30, 0, 200));
        Check.fine("product", () -> x.product(1, 6, 5, 3, 4));
        answered("open(0)", x.open(0));
        answered("order(1, 2, 100)", x.order(1, 2, 100));
        answered("order(0, 1, 40)", x.order(0, 1, 40));
        answered("rate(5)", x.rate(5));
        answered("pass(10)", x.pass(10));
        answered("unit(49)", x.unit(49));
        answered("batch(1, 6)", x.batch(1, 6));
        answered("tank(0, 0)", x.tank(0, 0));
        answered("tank(0, 1)", x.tank(0, 1));
        answered("tank(0, 2)", x.tank(0, 2));
        answered("pressure(0, 5)", x.pressure(0, 5));
        answered("share(1, 60)", x.share(1, 60));
    }

    private void answered(String call, int got) {
        String due = "no line in README.md";
        for (String line : lines) {
            if (line.startsWith("x." + call + ";")) {
                due = line.substring(line.indexOf("// ") + 3).split("\\D", 2)[0];
            }
        }
        Check.due(call, due, "" + got);
    }
}
