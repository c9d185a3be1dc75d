import java.io.IOException;
import java.nio.file.Files;
import java.nio.file.Path;
import java.util.regex.Matcher;
import java.util.regex.Pattern;

/** The examples of README.md, and that they stand there as they are tested here. */
public final class ReadmeTest {
    private static final Pattern EXAMPLE = Pattern.compile("(?s)```java\n(.*?)```");
    private static final Pattern ANSWER = Pattern.compile("(.*);\\s*// (\\d+)\\b.*");

    public static void main(String[] args) throws IOException {
        sharing();
        pairs();
        rings();
        sameText();
        Check.end();
    }

    private static void sharing() {
        Check.part("the example of sharing");
        GraphWalker x = new GraphWalker();
        int sum = x.two(3, x.number(6), x.number(7));
        int v = x.variable(0);
        int square = x.two(1, sum, x.two(5, v, v));
        x.begin(square, true);
        Check.due("run", x.run(4), 4);
        Check.due("outcome", x.outcome(), 1);
        Check.due("run", x.run(5000), 8);
        Check.due("outcome", x.outcome(), 2);
        Check.due("value", x.value(), 169);
        Check.due("worked", x.worked(0, 0), 1);
        x.begin(square, false);
        Check.due("run", x.run(5000), 16);
        Check.due("worked", x.worked(0, 0), 2);
    }

    private static void pairs() {
        Check.part("the example of pairs");
        GraphWalker y = new GraphWalker();
        int ones = y.two(2, y.number(1), y.variable(0));
        y.begin(y.two(1, ones, y.variable(0)), true);
        Check.due("run", y.run(5000), 4);
        Check.due("sort", y.sort(), 2);
        y.into(0);
        Check.due("run", y.run(5000), 3);
        Check.due("value", y.value(), 1);
        Check.due("collect", y.collect(), 2);
        Check.due("thing", y.thing(0), 3);
    }

    private static void rings() {
        Check.part("the example of rings");
        GraphWalker z = new GraphWalker();
        int self = z.two(3, z.number(1), z.variable(0));
        z.begin(z.two(1, self, z.variable(0)), true);
        Check.due("run", z.run(5000), 6);
        Check.due("outcome", z.outcome(), 3);
        Check.due("ring", z.ring(0), 0);
    }

    /** A line of README with an answer is due here with that answer, another line stands here. */
    private static void sameText() throws IOException {
        Check.part("README.md");
        String here = Files.readString(Path.of("src/test/java/ReadmeTest.java"));
        Matcher example = EXAMPLE.matcher(Files.readString(Path.of("README.md")));
        int lines = 0;
        while (example.find()) {
            for (String line : example.group(1).split("\n")) {
                Matcher answer = ANSWER.matcher(line);
                String due = answer.matches() ? ", " + answer.group(1) + ", " + answer.group(2) + ");"
                    : "\n        " + line.replaceAll("\\s*//.*", "") + "\n";
                Check.isTrue(line + " is tested", here.contains(due));
                lines++;
            }
        }
        Check.due("lines of examples", lines, 30);
    }
}
