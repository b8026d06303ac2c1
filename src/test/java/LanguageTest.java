import java.io.IOException;
import java.nio.file.Files;
import java.nio.file.Path;
import java.util.List;
import java.util.Set;
import java.util.TreeSet;
import java.util.regex.Matcher;
import java.util.regex.Pattern;

/** Looks for what ../shared/LANGUAGE.md rules out, as far as the text of the program shows it. */
public final class LanguageTest {
    private static int absent(String text, String pattern) {
        Matcher m = Pattern.compile(pattern).matcher(text);
        int found = 0;
        while (m.find()) {
            found++;
            System.out.println("found: " + m.group());
        }
        return found;
    }

    public static void main(String[] args) throws IOException {
        Path source = Path.of(args.length > 0 ? args[0] : ".", "src/main/java/TestHouse.java");
        String whole = Files.readString(source);
        Checks.due("signs that are not ASCII", absent(whole, "[^\\x0a\\x20-\\x7e]"), 0);
        String text = whole.replaceAll("(?s)/\\*.*?\\*/", " ").replaceAll("//[^\n]*", " ")
                .replaceAll("\"(?:[^\"\\\\]|\\\\.)*\"", "TEXT").replaceAll("'(?:[^'\\\\]|\\\\.)'", "1");
        Checks.due("rule 6", absent(text, "\\b(throw|throws|try|catch|finally|synchronized|assert|volatile|transient|native)\\b"), 0);
        Checks.due("rule 2", absent(text, "->|::|\\bnew \\w+(<\\w*>)?\\([^()]*\\) \\{|\\b(interface|enum|record|@)\\b"), 0);
        Checks.due("rule 3", absent(text, "\\b(double|float|Object|Map|Set|HashMap|var)\\b"), 0);
        Checks.due("rule 4", absent(text, "Exact\\(|\\.(stream|toString|hashCode|equals|format|valueOf|split|join)\\("), 0);
        Checks.due("rule 4: System", absent(text, "System\\.(?!arraycopy)"), 0);
        Checks.due("rule 4: Integer and Math", absent(text, "\\bInteger\\.(?!bitCount)|\\bMath\\.(?!min|max|abs)"), 0);
        Checks.due("rule 9", absent(text, "while \\(true\\)|for \\(;;\\)"), 0);
        Checks.due("rule 10", absent(text, "TEXT\\s*\\+|\\+\\s*TEXT"), 0);
        Set<String> imports = new TreeSet<>();
        Matcher m = Pattern.compile("import ([^;]+);").matcher(text);
        while (m.find()) {
            imports.add(m.group(1));
        }
        Checks.due("imports " + imports, imports.equals(Set.of("java.util.ArrayList", "java.util.Arrays")) ? 1 : 0, 1);
        Checks.due("rule 11: classes", absent(text.replace("private static final class", "CLASS"), "\\bclass\\b"), 1);
        methods(text.lines().toList());
        Checks.end("LanguageTest");
    }

    /** Rule 11: the lines of a method, and its parameters. */
    private static void methods(List<String> lines) {
        Pattern head = Pattern.compile("^( {4}| {8})(?=\\S)[\\w<>\\[\\] ]*\\w+\\((.*)\\) \\{$");
        for (int i = 0; i < lines.size(); i++) {
            Matcher m = head.matcher(lines.get(i));
            if (m.matches()) {
                int end = i;
                while (!lines.get(end).equals(m.group(1) + "}")) {
                    end++;
                }
                Checks.due("lines of " + lines.get(i), end - i < 60 ? 1 : 0, 1);
                Checks.due("parameters of " + lines.get(i), m.group(2).split(",").length <= 7 ? 1 : 0, 1);
            }
        }
    }
}
