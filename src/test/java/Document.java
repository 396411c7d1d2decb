import java.io.IOException;
import java.nio.file.Files;
import java.nio.file.Path;
import java.util.ArrayList;
import java.util.List;
import java.util.Map;
import java.util.TreeMap;

/** The document's words by their places, and which of them some test has quoted. */
final class Document {
    static final String REST = "the rest";
    private static final Path FILE = Path.of("../shared/DOC.md");
    private static final int PROMISES = 43;

    private final Map<String, String> texts = new TreeMap<>();
    private final Map<String, boolean[]> quoted = new TreeMap<>();

    static String promise(int number) {
        return "promise " + number;
    }

    static String term(String number) {
        return "term " + number;
    }

    static boolean isThere() {
        return Files.isRegularFile(FILE);
    }

    static Document read() throws IOException {
        Document document = new Document();
        String place = REST;
        for (String line : Files.readAllLines(FILE)) {
            if (line.startsWith("## Promise ")) {
                place = promise(Integer.parseInt(line.substring(11, line.indexOf(':'))));
                continue;
            }
            if (line.startsWith("#") || line.startsWith("The constants:")) {
                place = REST;
            } else if (line.matches("(I|II|III|IV|V)\\. .*")) {
                place = term(line.substring(0, line.indexOf('.')));
            }
            if (line.startsWith("```")) {
                continue;
            }
            document.texts.merge(place, line.strip(), (before, more) -> before + " " + more);
        }
        document.texts.replaceAll((where, text) -> plain(text));
        document.texts.forEach((where, text) -> document.quoted.put(where, new boolean[text.length()]));
        return document;
    }

    private static String plain(String text) {
        return text.replaceAll("\\s+", " ").strip();
    }

    /** Whether these words stand there; they count as quoted then, wherever in it they do. */
    boolean quotes(String place, String words) {
        String text = texts.getOrDefault(place, "");
        int at = text.indexOf(words);
        boolean found = at >= 0;
        while (at >= 0) {
            for (int i = at; i < at + words.length(); i++) {
                quoted.get(place)[i] = true;
            }
            at = text.indexOf(words, at + 1);
        }
        return found;
    }

    /** What no test quotes of a promise, or of one of the Terms; empty if there is nothing. */
    String leftOf(String place) {
        String text = texts.getOrDefault(place, "");
        boolean[] seen = quoted.get(place);
        StringBuilder left = new StringBuilder();
        for (int i = proseOf(text); i < text.length(); i++) {
            if (!seen[i] && Character.isLetterOrDigit(text.charAt(i))) {
                left.append(text.charAt(i));
            } else if (left.length() > 0 && left.charAt(left.length() - 1) != ' ') {
                left.append(' ');
            }
        }
        return text.isEmpty() ? "all of it" : left.toString().strip();
    }

    /** A promise begins with its face, one of the Terms with its number. */
    private static int proseOf(String text) {
        return text.startsWith("`") ? text.indexOf("`:") + 2 : text.indexOf('.') + 1;
    }

    /** The places of which every word is to be quoted by some test. */
    static List<String> places() {
        List<String> places = new ArrayList<>();
        for (int promise = 1; promise <= PROMISES; promise++) {
            places.add(promise(promise));
        }
        for (String number : new String[] {"I", "II", "III", "IV", "V"}) {
            places.add(term(number));
        }
        return places;
    }
}
