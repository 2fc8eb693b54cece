import java.io.IOException;
import java.nio.file.Files;
import java.nio.file.Path;
import java.util.List;
import java.util.regex.Matcher;
import java.util.regex.Pattern;

/** Some rules of LANGUAGE.md that can be seen in the program's file itself. */
final class LanguageTests {
    private static final String[] RULED_OUT = {
        "->", "::", "\\bcatch\\b", "\\bfinally\\b", "\\bsynchronized\\b", "\\bassert\\b", "\\bpackage ", "\\bMath\\.\\w+Exact",
        "\\bhashCode\\b", "\\bdoubleToLongBits\\b", "\\bfloatToIntBits\\b", "\\bSystem\\.(?!arraycopy)", "\\bstatic \\{",
        "\\bThread\\b", "\\bRandom\\b", "\\bprotected\\b", "import (?!java\\.util\\.Arrays;)",
    };

    private final Checks checks;
    private final String text;
    private final List<String> lines;

    LanguageTests(Checks checks, String path) throws IOException {
        this.checks = checks;
        this.text = Files.readString(Path.of(path));
        this.lines = Files.readAllLines(Path.of(path));
    }

    void all() {
        checks.test("language: what is ruled out", this::ruledOut);
        checks.test("language: signs 1 to 127", this::signs);
        checks.test("language: short methods", this::shortMethods);
        checks.test("language: objects are made with their owners alone", this::objectsMade);
    }

    private void ruledOut() {
        for (String pattern : RULED_OUT) {
            Matcher matcher = Pattern.compile(pattern).matcher(text);
            if (matcher.find()) {
                checks.isTrue("no \"" + matcher.group() + "\" at " + matcher.start(), false);
            }
        }
    }

    private void signs() {
        for (int k = 0; k < text.length(); k++) {
            checks.isTrue("the sign " + k, text.charAt(k) >= 1 && text.charAt(k) <= 127);
        }
    }

    private void shortMethods() {
        Pattern head = Pattern.compile("( {4}| {8})[^ /*@}].*[)\\w] \\{| {12}throws .*\\{");
        int start = -1;
        String end = "";
        for (int k = 0; k < lines.size(); k++) {
            String line = lines.get(k);
            if (start < 0 && head.matcher(line).matches() && !line.contains(" class ")) {
                start = k;
                end = line.startsWith("        ") && !line.contains("throws") ? "        }" : "    }";
            } else if (start >= 0 && line.equals(end)) {
                checks.isTrue("at most 60 lines from " + (start + 1), k - start < 60);
                start = -1;
            }
        }
    }

    /** All calls of one run live in one room: what a call needs stands ready since the constructor. */
    private void objectsMade() {
        boolean inConstructor = false;
        for (String line : lines) {
            if (line.matches(" +(public SquopPiles|Mat|Past)\\(\\) \\{")) {
                inConstructor = true;
            } else if (line.equals("        }") || line.equals("    }")) {
                inConstructor = false;
            }
            if (line.contains("new ") && !line.contains("throw new ") && !line.trim().startsWith("*")
                    && !line.trim().startsWith("/")) {
                checks.isTrue(line.trim(), inConstructor || line.contains("private final "));
            }
        }
    }
}
