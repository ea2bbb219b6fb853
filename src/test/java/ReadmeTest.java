import java.io.IOException;
import java.nio.file.Files;
import java.nio.file.Path;
import java.util.regex.Matcher;
import java.util.regex.Pattern;

/** Runs the calls that README.md shows: behind each of them stands what it answers or throws. */
public final class ReadmeTest {
    private static final Pattern CALL = Pattern.compile("    editor\\.(\\w+)\\(([^)]*)\\); *// (\\w+): .*");
    private static final int LEAST_CALLS = 20;

    private ReadmeTest() {
    }

    public static void main(String[] args) throws IOException {
        StringBuilder script = new StringBuilder();
        int calls = 0;
        for (String line : Files.readAllLines(Path.of("README.md"))) {
            Matcher matcher = CALL.matcher(line);
            if (matcher.matches()) {
                calls++;
                String call = matcher.group(1) + " " + matcher.group(2).replace(",", "");
                script.append(call).append(" -> ").append(due(matcher.group(3))).append('\n');
            } else if (line.contains("editor.")) {
                throw new IllegalStateException("not a call with its answer: " + line);
            }
        }
        if (calls < LEAST_CALLS) {
            throw new IllegalStateException("README.md shows just " + calls + " calls");
        }
        Script.run("README.md", script.toString());
        Script.end();
    }

    /** The answer in the form of a script. */
    private static String due(String told) {
        switch (told) {
            case "nothing": return "-";
            case "IndexOutOfBoundsException": return "index";
            case "IllegalArgumentException": return "argument";
            case "IllegalStateException": return "state";
            default: return told;
        }
    }
}
