import java.io.IOException;
import java.nio.charset.StandardCharsets;
import java.nio.file.Files;
import java.nio.file.Path;
import java.util.List;
import java.util.regex.Matcher;
import java.util.regex.Pattern;

/** Those rules of LANGUAGE.md that can be seen in the program's lines; it runs from the project's folder. */
public final class RulesTest {
    private static final String[] REFUSED = {
        "->", "::", "\\bfinally\\b", "\\bsynchronized\\b", "\\bassert\\b", "\\bcatch\\b", "\\btry\\s*\\{", "\\bpackage\\b",
        "\\bprotected\\b", "\\bdouble\\b", "\\bfloat\\b", "Exact\\b", "\\bSystem\\.(?!arraycopy)", "\\bThread\\b",
        "\\bRandom\\b", "^\\s*static \\{", "\\bequals\\(", "\\bhashCode\\b", "\\btoString\\b", "\\bvar\\b", "\\byield\\b"
    };

    public static void main(String[] args) throws IOException {
        List<String> lines = Files.readAllLines(Path.of("src/main/java/DialSafes.java"), StandardCharsets.UTF_8);
        int line = 0;
        for (String text : lines) {
            line++;
            String code = text.replaceAll("//.*|/?\\*\\*?.*", "");
            for (String refused : REFUSED) {
                Checks.no(line + " has " + refused, Pattern.compile(refused).matcher(code).find());
            }
            boolean wide = text.startsWith("import ") && !text.equals("import java.util.NoSuchElementException;");
            Checks.no(line + " imports more", wide);
            Checks.no(line + " throws another one", code.matches(".*throw new (?!IndexOutOfBounds|NoSuchElement).*"));
            Checks.yes(line + " has plain signs alone", text.chars().allMatch(c -> c >= 32 && c < 127));
        }
        methodsAreShort(lines);
        Checks.end();
    }

    private static void methodsAreShort(List<String> lines) {
        Pattern head = Pattern.compile("^( {4}| {8})(public|private) .*\\{$");
        String indent = null;
        int start = 0;
        for (int k = 0; k < lines.size(); k++) {
            Matcher m = head.matcher(lines.get(k));
            if (m.matches() && !lines.get(k).contains(" class ")) {
                indent = m.group(1);
                start = k;
            } else if (indent != null && lines.get(k).equals(indent + "}")) {
                Checks.yes("short: " + lines.get(start).trim(), k - start < 60);
                indent = null;
            }
        }
    }
}
