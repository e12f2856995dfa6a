import java.io.IOException;
import java.nio.file.Files;
import java.nio.file.Path;
import java.util.List;
import java.util.regex.Matcher;
import java.util.regex.Pattern;

/** The example of README.md: each call answers what stands beside it. */
public final class ReadmeTest {
    private static final Pattern CALL = Pattern.compile("node\\.(\\w+)\\((.*)\\); *// (\\w+|-?\\d+)(:.*)?");

    public static void main(String[] args) throws IOException {
        Node x = new Node(4);
        int calls = 0;
        List<String> lines = Files.readAllLines(Path.of("README.md"));
        for (String line : lines) {
            Matcher call = CALL.matcher(line.strip());
            if (call.matches()) {
                calls++;
                Kit.due(line, answer(x, call.group(1), numbers(call.group(2))), call.group(3).equals("true") ? 1
                        : Long.parseLong(call.group(3)));
            }
        }
        Kit.due("calls of the example", calls > 20, true);
        Kit.due("calls without an answer beside them", lines.stream().filter(line -> line.startsWith("node.")).count(),
                calls);
        Kit.end();
    }

    private static long[] numbers(String arguments) {
        return Pattern.compile(", *").splitAsStream(arguments).filter(one -> !one.isEmpty())
                .mapToLong(one -> Long.decode(one.replace("L", ""))).toArray();
    }

    private static long answer(Node x, String name, long[] with) {
        switch (name) {
            case "type":
                return x.type(with[0], (int) with[1]) ? 1 : 0;
            case "check":
                return x.check((int) with[0]);
            case "convert":
                return x.convert((int) with[0], (int) with[1]);
            case "at":
                return x.at((int) with[0]);
            case "open":
                return x.open() ? 1 : 0;
            case "close":
                return x.close() ? 1 : 0;
            case "feed":
                return x.feed(with[0], (int) with[1]) ? 1 : 0;
            case "send":
                return x.send() ? 1 : 0;
            case "take":
                return x.take();
            case "state":
                return x.state((int) with[0]);
            case "context":
                return x.context((int) with[0]);
            case "record":
                return x.record((int) with[0], (int) with[1]);
            default:
                throw new IllegalArgumentException(name);
        }
    }
}
