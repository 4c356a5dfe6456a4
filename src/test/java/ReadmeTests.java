import java.io.IOException;
import java.nio.charset.StandardCharsets;
import java.nio.file.Files;
import java.nio.file.Path;
import java.util.Arrays;
import java.util.regex.Matcher;
import java.util.regex.Pattern;

/** README.md: each line of its example answers what stands behind it, and its table has every call. */
public final class ReadmeTests extends Checks {
    private static final Pattern LINE = Pattern.compile("x\\.(\\w+)\\(([^;]*)\\);\\s*// (-?\\d+).*");

    private ReadmeTests() {
    }

    public static void main(String[] args) throws IOException {
        about("README.md");
        Path main = Path.of(args.length > 0 ? args[0] : "src/main/java/TwoLevels.java").toAbsolutePath();
        Path root = main.getParent().getParent().getParent().getParent();
        String text = Files.readString(root.resolve("README.md"), StandardCharsets.ISO_8859_1);
        String example = text.substring(text.indexOf("```java"), text.lastIndexOf("```"));
        TwoLevels x = new TwoLevels();
        int lines = 0;
        for (String line : example.split("\n")) {
            Matcher m = LINE.matcher(line);
            if (!m.matches()) continue;
            lines++;
            due(Calls.call(x, call(m.group(1), m.group(2))), Integer.parseInt(m.group(3)), line);
        }
        due(lines, (int) example.lines().filter(s -> s.startsWith("x.")).count(), "lines that could be read");
        due(lines > 10 ? 1 : 0, 1, "an example is there");
        for (String name : Calls.NAMES) {
            boolean there = text.lines().anyMatch(s -> s.startsWith("|") && s.split("\\|")[1].contains("`" + name + "`"));
            due(there ? 1 : 0, 1, name + " is in the table");
        }
        finish();
    }

    private static int[] call(String name, String arguments) {
        String[] told = arguments.isEmpty() ? new String[0] : arguments.split(", ");
        int[] call = new int[1 + told.length];
        call[0] = Arrays.asList(Calls.NAMES).indexOf(name);
        for (int i = 0; i < told.length; i++) call[i + 1] = number(told[i]);
        return call;
    }

    private static int number(String told) {
        int shift = told.indexOf(" << ");
        if (shift >= 0) return number(told.substring(0, shift)) << number(told.substring(shift + 4));
        if (told.startsWith("'")) return told.charAt(1);
        return told.equals("NONE") ? NONE : Integer.decode(told);
    }
}
