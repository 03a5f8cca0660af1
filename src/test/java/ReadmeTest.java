import java.io.IOException;
import java.nio.file.Files;
import java.nio.file.Path;
import java.util.HashMap;
import java.util.List;
import java.util.Map;
import java.util.regex.Matcher;
import java.util.regex.Pattern;
import java.util.stream.Collectors;
import java.util.stream.Stream;

/** README.md says how to use the class, by an example whose answers hold, and how to run every test. */
public final class ReadmeTest {
    private static final Pattern HEADING = Pattern.compile("^## (Use|Tests)$", Pattern.MULTILINE);

    private static final Pattern EXAMPLE = Pattern.compile("```java\n(.*?)```", Pattern.DOTALL);

    /** "int van = yard.wagon(1, 20); // 1: ..": a variable or none, the call, the answer. */
    private static final Pattern LINE = Pattern.compile(
        "(?:int (\\w+) = )?yard\\.(\\w+\\([^()]*\\)); +// (-?\\d+)\\b.*");

    private static final Pattern WORD = Pattern.compile("(?:WagonSidings\\.)?\\b([A-Za-z]\\w*)\\b(?!\\()");

    public static void main(String[] args) throws IOException {
        Path readme = Path.of("README.md");
        Check.due("README.md is there", Files.exists(readme) ? 1 : 0, 1);
        if (Files.exists(readme)) {
            String text = Files.readString(readme);
            headings(text);
            example(text);
            namesOfTests(text);
        }
        Check.end();
    }

    private static void headings(String text) {
        Check.due("headings Use and Tests", (int) HEADING.matcher(text).results().count(), 2);
        Check.due("names .ci/run", text.contains("\n    .ci/run\n") ? 1 : 0, 1);
    }

    private static void example(String text) {
        Matcher block = EXAMPLE.matcher(text);
        boolean found = block.find();
        Check.due("has an example", found ? 1 : 0, 1);
        if (!found) {
            return;
        }
        List<String> lines = block.group(1).lines().filter(l -> !l.isBlank()).collect(Collectors.toList());
        Check.due("it makes an object", lines.get(0).equals("WagonSidings yard = new WagonSidings();") ? 1 : 0, 1);
        Yard yard = new Yard();
        Map<String, Integer> variables = new HashMap<>(Map.of("NONE", WagonSidings.NONE));
        for (String line : lines.subList(1, lines.size())) {
            Matcher m = LINE.matcher(line);
            boolean matches = m.matches();
            Check.due("README line in form: " + line, matches ? 1 : 0, 1);
            if (!matches) {
                continue;
            }
            int answer = yard.ask(WORD.matcher(m.group(2)).replaceAll(w -> "" + variables.get(w.group(1))));
            Check.due("README: " + line, answer, Integer.parseInt(m.group(3)));
            if (m.group(1) != null) {
                variables.put(m.group(1), answer);
            }
        }
    }

    private static void namesOfTests(String text) throws IOException {
        try (Stream<Path> files = Files.list(Path.of("src/test/java"))) {
            for (Path file : files.collect(Collectors.toList())) {
                String name = file.getFileName().toString().replace(".java", "");
                Check.due("README names " + name, text.contains(name) ? 1 : 0, 1);
            }
        }
    }
}
