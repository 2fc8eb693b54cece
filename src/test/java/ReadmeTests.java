import java.io.IOException;
import java.lang.reflect.Method;
import java.lang.reflect.Modifier;
import java.nio.file.Files;
import java.nio.file.Path;
import java.util.List;
import java.util.regex.Matcher;
import java.util.regex.Pattern;

/** README.md is true: it names every call, and its games answer as it says. */
final class ReadmeTests {
    private static final Pattern ANSWERED = Pattern.compile("game\\.(\\w+)\\(([^()]*)\\); +// (-?\\d+):.*");
    private static final String NEW_GAME = "SquopPiles game = new SquopPiles();";

    private final Checks checks;
    private final List<String> lines;

    ReadmeTests(Checks checks, String path) throws IOException {
        this.checks = checks;
        this.lines = Files.readAllLines(Path.of(path));
    }

    void all() {
        checks.test("readme: names every call", this::namesEveryCall);
        checks.test("readme: tells how to run the tests", this::tellsTheTests);
        checks.test("readme: its games answer so", this::games);
    }

    private void namesEveryCall() {
        String text = String.join("\n", lines);
        for (Method method : SquopPiles.class.getDeclaredMethods()) {
            if (Modifier.isPublic(method.getModifiers())) {
                checks.isTrue(method.getName() + " is named", text.contains("`" + method.getName() + "`"));
            }
        }
    }

    private void tellsTheTests() {
        checks.isTrue("a line .ci/run", lines.contains(".ci/run"));
    }

    private void games() {
        SquopPiles game = null;
        int games = 0;
        int calls = 0;
        for (String line : lines) {
            Matcher call = ANSWERED.matcher(line);
            if (line.equals(NEW_GAME)) {
                game = new SquopPiles();
                games++;
            } else if (call.matches()) {
                checks.due(line, Long.parseLong(call.group(3)), answer(game, call.group(1), call.group(2)));
                calls++;
            } else {
                checks.isTrue("an answer is told: " + line, !line.startsWith("game."));
            }
        }
        checks.due("games", 2, games);
        checks.due("calls", 17, calls);
    }

    private static long answer(SquopPiles game, String name, String arguments) {
        String[] parts = arguments.isEmpty() ? new String[0] : arguments.split(", ");
        Object[] numbers = new Object[parts.length];
        Class<?>[] types = new Class<?>[parts.length];
        for (int k = 0; k < parts.length; k++) {
            types[k] = int.class;
            numbers[k] = parts[k].startsWith("'") ? (int) parts[k].charAt(1) : Integer.parseInt(parts[k]);
        }
        try {
            return ((Number) SquopPiles.class.getMethod(name, types).invoke(game, numbers)).longValue();
        } catch (ReflectiveOperationException e) {
            throw new IllegalStateException(name + ": " + e.getCause(), e);
        }
    }
}
