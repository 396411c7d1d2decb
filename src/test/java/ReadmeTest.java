import java.io.IOException;
import java.lang.reflect.InvocationTargetException;
import java.lang.reflect.Method;
import java.lang.reflect.Modifier;
import java.nio.file.Files;
import java.nio.file.Path;
import java.util.HashMap;
import java.util.List;
import java.util.Map;
import java.util.regex.Matcher;
import java.util.regex.Pattern;

/** README.md tells no answer that the class doesn't give, and leaves out no call. */
public final class ReadmeTest {
    private static final Path README = Path.of("README.md");
    private static final Path TEXTS = Path.of("src/test/java/Texts.java");
    private static final Pattern ROW = Pattern.compile("desk\\.(\\w+)\\((.*)\\);\\s+// (-?\\w+): .*");
    private static final int ROWS = 30;

    private static final Map<String, Method> FACE = new HashMap<>();
    private static int wrong;

    public static void main(String[] args) throws IOException, IllegalAccessException {
        for (Method method : BurstDesk.class.getDeclaredMethods()) {
            if (Modifier.isPublic(method.getModifiers())) {
                FACE.put(method.getName(), method);
            }
        }
        List<String> lines = Files.readAllLines(README);
        example(lines);
        wayToFeed(lines);
        for (String name : FACE.keySet()) {
            check("README.md doesn't name " + name, String.join("\n", lines).contains("`" + name + "`"));
        }
        System.out.println(wrong == 0 ? "README.md is as due" : wrong + " faults of README.md");
        if (wrong != 0) {
            System.exit(1);
        }
    }

    private static void check(String fault, boolean fine) {
        if (!fine) {
            wrong++;
            System.out.println(fault);
        }
    }

    private static void example(List<String> lines) throws IllegalAccessException {
        BurstDesk desk = null;
        int rows = 0;
        for (String line : lines) {
            if (line.equals("BurstDesk desk = new BurstDesk();")) {
                desk = new BurstDesk();
            } else if (line.startsWith("desk.")) {
                rows++;
                Matcher row = ROW.matcher(line);
                boolean told = desk != null && row.matches() && FACE.containsKey(row.group(1));
                check("no row of the example: " + line, told);
                if (told) {
                    String answer = answer(desk, FACE.get(row.group(1)), row.group(2));
                    check(line + " answered " + answer, answer.equals(row.group(3)));
                }
            }
        }
        check("the example is gone", rows >= ROWS);
    }

    private static String answer(BurstDesk desk, Method method, String told) throws IllegalAccessException {
        String[] words = told.isEmpty() ? new String[0] : told.split(", ");
        Object[] values = new Object[words.length];
        for (int i = 0; i < words.length; i++) {
            boolean truth = words[i].equals("true") || words[i].equals("false");
            values[i] = truth ? (Object) Boolean.valueOf(words[i]) : (Object) Integer.decode(words[i]);
        }
        try {
            return String.valueOf(method.invoke(desk, values));
        } catch (InvocationTargetException e) {
            return String.valueOf(e.getCause());
        }
    }

    /** The method that it shows stands in Texts.java, which the other tests use. */
    private static void wayToFeed(List<String> lines) throws IOException {
        int first = lines.indexOf("    static void feed(BurstDesk desk, String text) {");
        check("the way to feed a text is gone", first >= 0);
        if (first >= 0) {
            int end = first + lines.subList(first, lines.size()).indexOf("```");
            String shown = String.join("\n", lines.subList(first, Math.max(first, end)));
            check("Texts.java feeds otherwise", end > first && Files.readString(TEXTS).contains(shown));
        }
    }
}
