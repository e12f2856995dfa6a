import java.io.File;
import java.io.IOException;
import java.nio.file.Files;
import java.nio.file.Path;
import java.util.ArrayList;
import java.util.List;
import java.util.concurrent.TimeUnit;
import java.util.stream.Collectors;
import javax.tools.ToolProvider;

/**
 * Breaks the class sentence by sentence of the document, and looks whether the test that is named
 * for the sentence fails: a test that never fails says nothing.
 *
 * <p>Called with the directory of the compiled tests; breaks.txt tells the breaks.
 */
public final class Breaks {
    private static final Path LIST = Path.of("src/test/breaks/breaks.txt");
    private static final Path CLASS = Path.of("src/main/java/RecordNode.java");
    private static final Path DOCUMENT = Path.of("../shared/DOC.md");
    private static final int MOST_SECONDS = 120;

    private record Edit(String before, String after) {
    }

    private record Break(int line, String sentence, String test, List<Edit> edits) {
    }

    public static void main(String[] args) throws IOException {
        List<Break> breaks = read(Files.readAllLines(LIST));
        String source = withoutMargins(Files.readString(CLASS));
        List<String> wrong = new ArrayList<>(notInTheDocument(breaks));
        wrong.addAll(failAnyway(breaks, source, args[0]));
        wrong.addAll(breaks.parallelStream().map(one -> outcome(one, source, args[0])).filter(said -> !said.isEmpty())
                .collect(Collectors.toList()));
        wrong.forEach(System.out::println);
        System.out.println(breaks.size() + " breaks, " + wrong.size() + " not as due");
        System.exit(wrong.isEmpty() ? 0 : 1);
    }

    /** A line '#' tells the sentence, '=' the test; lines '-' become the lines '+' behind them. */
    private static List<Break> read(List<String> lines) {
        List<Break> breaks = new ArrayList<>();
        String sentence = "";
        for (int i = 0; i < lines.size(); i++) {
            String line = lines.get(i);
            if (line.startsWith("#")) {
                sentence = line.substring(1).strip();
            } else if (line.startsWith("=")) {
                breaks.add(new Break(i + 1, sentence, line.substring(1).strip(), new ArrayList<>()));
            } else if (line.startsWith("-")) {
                boolean goesOn = lines.get(i - 1).startsWith("-");
                addLine(breaks.get(breaks.size() - 1).edits, line.substring(1).strip(), goesOn);
            } else if (line.startsWith("+")) {
                List<Edit> edits = breaks.get(breaks.size() - 1).edits;
                Edit last = edits.remove(edits.size() - 1);
                String before = last.after.isEmpty() && !lines.get(i - 1).startsWith("+") ? "" : last.after + "\n";
                edits.add(new Edit(last.before, before + line.substring(1).strip()));
            }
        }
        return breaks;
    }

    private static void addLine(List<Edit> edits, String line, boolean goesOn) {
        if (goesOn) {
            Edit last = edits.remove(edits.size() - 1);
            edits.add(new Edit(last.before + "\n" + line, ""));
        } else {
            edits.add(new Edit(line, ""));
        }
    }

    private static String withoutMargins(String text) {
        return text.lines().map(String::strip).collect(Collectors.joining("\n"));
    }

    private static List<String> notInTheDocument(List<Break> breaks) throws IOException {
        String document = Files.readString(DOCUMENT).replaceAll("\\s+", " ");
        return breaks.stream().map(one -> one.sentence).distinct().filter(sentence -> !document.contains(sentence))
                .map(sentence -> "not in the document: " + sentence).collect(Collectors.toList());
    }

    /** A test that fails with the class as it is, or is not there, would see every break. */
    private static List<String> failAnyway(List<Break> breaks, String source, String tests) {
        return breaks.stream().map(one -> one.test).distinct().collect(Collectors.toList()).parallelStream()
                .filter(test -> outcome(new Break(0, "", test, List.of()), source, tests).isEmpty())
                .map(test -> "fails with the class as it is: " + test).collect(Collectors.toList());
    }

    /** Nothing when the test failed, as it should. */
    private static String outcome(Break one, String source, String tests) {
        String name = "line " + one.line + ", " + one.test + ": ";
        try {
            Path place = Files.createTempDirectory("break");
            try {
                String said = compile(one, source, place);
                if (said.isEmpty() && !fails(one.test, place + File.pathSeparator + tests)) {
                    said = "passes though the class is broken: " + one.sentence;
                }
                return said.isEmpty() ? "" : name + said;
            } finally {
                remove(place);
            }
        } catch (IOException | InterruptedException e) {
            return name + e;
        }
    }

    private static String compile(Break one, String source, Path place) throws IOException {
        String broken = source;
        for (Edit edit : one.edits) {
            int first = broken.indexOf(edit.before);
            if (first < 0 || broken.indexOf(edit.before, first + 1) >= 0) {
                return "not just once in the class: " + edit.before;
            }
            broken = broken.replace(edit.before, edit.after);
        }
        Path file = place.resolve("RecordNode.java");
        Files.writeString(file, broken);
        int code = ToolProvider.getSystemJavaCompiler().run(null, null, null, "-d", place.toString(), file.toString());
        return code == 0 ? "" : "is no longer Java";
    }

    /** A broken class that does not come to an end is seen as well. */
    private static boolean fails(String test, String classPath) throws IOException, InterruptedException {
        Process run = new ProcessBuilder("java", "-XX:+UseSerialGC", "-XX:TieredStopAtLevel=1", "-cp", classPath, test)
                .redirectErrorStream(true).redirectOutput(ProcessBuilder.Redirect.DISCARD).start();
        if (!run.waitFor(MOST_SECONDS, TimeUnit.SECONDS)) {
            run.destroyForcibly();
            return true;
        }
        return run.exitValue() != 0;
    }

    private static void remove(Path place) throws IOException {
        try (var files = Files.list(place)) {
            for (Path file : files.collect(Collectors.toList())) {
                Files.delete(file);
            }
        }
        Files.delete(place);
    }
}
