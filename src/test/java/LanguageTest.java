import java.io.IOException;
import java.nio.file.Files;
import java.nio.file.Path;
import java.util.List;
import java.util.regex.Pattern;

/** What of LANGUAGE.md can be seen by looking at the text of the class. */
public final class LanguageTest {
    private static final String SOURCE = "src/main/java/BurstDesk.java";
    private static final int LONGEST_METHOD = 60;
    private static final String[] FORBIDDEN = {"->", "::", "\\bsynchronized\\b", "\\bassert\\b", "\\bfinally\\b",
        "\\bcatch\\b", "\\btry\\b", "static \\{", "Exact\\(", "\\bnull\\b", "\\bprotected\\b", "\\bSystem\\b",
        "\\bdouble\\b", "\\bfloat\\b", "\\bObject\\b", "\\binstanceof\\b", "\\bpackage\\b", "\\bgetClass\\b",
        "\\bThread\\b", "\\bequals\\(", "\\bhashCode\\(", "\\btoString\\(", "\\bdo \\{", "while \\(true\\)",
        "for \\(;;\\)", "\\bString\\.", "\\[\\]\\[\\]\\["};

    private static int wrong;

    public static void main(String[] args) throws IOException {
        List<String> lines = Files.readAllLines(Path.of(SOURCE));
        for (int i = 0; i < lines.size(); i++) {
            look(i + 1, lines.get(i));
        }
        methodLengths(lines);
        System.out.println(wrong == 0 ? "the language is kept" : wrong + " places outside the language");
        if (wrong != 0) {
            System.exit(1);
        }
    }

    private static void look(int number, String line) {
        String text = line.strip();
        if (text.startsWith("*") || text.startsWith("/*") || text.startsWith("//")) {
            return;
        }
        for (String word : FORBIDDEN) {
            if (Pattern.compile(word).matcher(line).find()) {
                tell(number, word + " in: " + text);
            }
        }
        if (text.startsWith("import") && !text.equals("import java.util.NoSuchElementException;")) {
            tell(number, text);
        }
        if (line.contains("throw new") && !line.contains("throw new NoSuchElementException(\"")) {
            tell(number, text);
        }
        if (text.matches("(private |public )?static (?!final)[a-zA-Z\\[\\]]+ \\w+( =.*)?;")) {
            tell(number, "static and not final: " + text);
        }
        for (int i = 0; i < line.length(); i++) {
            if (line.charAt(i) < 32 || line.charAt(i) > 126) {
                tell(number, "a sign outside 32 to 126");
            }
        }
    }

    /** A method begins with a line that ends in ") {" at the depth of members and ends with its closing brace. */
    private static void methodLengths(List<String> lines) {
        for (int i = 0; i < lines.size(); i++) {
            String line = lines.get(i);
            int indent = line.length() - line.stripLeading().length();
            boolean head = (indent == 4 || indent == 8) && line.matches(" +[a-zA-Z].*\\) (throws \\w+ )?\\{")
                    && !line.strip().matches("(if|for|while|switch|else).*");
            if (head) {
                int end = i;
                while (end < lines.size() && !lines.get(end).equals(" ".repeat(indent) + "}")) {
                    end++;
                }
                if (end - i + 1 > LONGEST_METHOD) {
                    tell(i + 1, "a method of " + (end - i + 1) + " lines");
                }
            }
        }
    }

    private static void tell(int number, String what) {
        wrong++;
        System.out.println("line " + number + ": " + what);
    }
}
