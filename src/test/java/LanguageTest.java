import java.io.IOException;
import java.nio.file.Files;
import java.nio.file.Path;
import java.util.List;
import java.util.regex.Matcher;
import java.util.regex.Pattern;

/** The rules of ../shared/LANGUAGE.md that can be seen from the lines of the class. */
public final class LanguageTest {
    private static final Pattern BANNED = Pattern.compile("\\b(catch|finally|try|synchronized|assert"
            + "|instanceof|volatile|transient|native|var|package|protected|System\\.out|Object|equals"
            + "|hashCode|toString|Exact|Random|Thread|Float|Double)\\b|->|::|@");
    private static final Pattern METHOD =
            Pattern.compile("^( +)(?:public |private |static |final )*[\\w\\[\\]]+ \\w+\\(.*");
    private static final int MOST_LINES = 60;

    public static void main(String[] args) throws IOException {
        List<String> lines = Files.readAllLines(Path.of("src/main/java/Amoebary.java"));
        for (int i = 0; i < lines.size(); i++) {
            String line = lines.get(i);
            String code = line.trim();
            if (code.startsWith("*") || code.startsWith("/*") || code.startsWith("//")) {
                continue;
            }
            Matcher banned = BANNED.matcher(line);
            if (banned.find()) {
                Check.note("line " + (i + 1) + " has " + banned.group());
            }
            if (line.startsWith("import ") && !line.equals("import java.util.Arrays;")) {
                Check.note("line " + (i + 1) + " imports: " + line);
            }
            if (line.length() > 120) {
                Check.note("line " + (i + 1) + " is too long");
            }
            Matcher method = METHOD.matcher(line);
            if (method.matches() && !code.startsWith("return") && !code.startsWith("new")) {
                Check.due("line " + (i + 1) + " begins a method that is too long",
                        linesTill(lines, i, method.group(1) + "}") > MOST_LINES, false);
            }
        }
        Check.end("LanguageTest");
    }

    private static int linesTill(List<String> lines, int from, String end) {
        int at = from;
        while (at < lines.size() && !lines.get(at).equals(end)) {
            at++;
        }
        return at - from;
    }
}
