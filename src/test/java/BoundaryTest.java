import java.io.IOException;
import java.util.List;

/**
 * The boundary cases of promises 1 to 43, each with a test that bears the promise's number and the document's words for
 * it. A test whose words the document hasn't, or a part of a promise or of the Terms that no test quotes, is a fault, too.
 */
public final class BoundaryTest {
    private BoundaryTest() {
    }

    public static void main(String[] args) throws IOException {
        TermBounds.all();
        TextBounds.all();
        PartBounds.all();
        FunctionBounds.all();
        RunBounds.all();
        WalkBounds.all();
        ActBounds.all();
        int wrong = tell(Bounds.all());
        if (Document.isThere()) {
            wrong += compare(Document.read());
        } else {
            System.out.println("the document isn't there: nobody looked whether it says what the tests quote");
        }
        if (wrong != 0) {
            System.exit(1);
        }
    }

    private static int tell(List<Bounds> tests) {
        int wrong = 0;
        int answers = 0;
        for (Bounds test : tests) {
            answers += test.answers();
            boolean empty = test.answers() == 0;
            if (empty || !test.faults().isEmpty()) {
                wrong++;
                System.out.println(test.place + ", \"" + test.sentence + "\":" + (empty ? " nothing was asked" : ""));
                test.faults().forEach(fault -> System.out.println("  " + fault));
            }
        }
        System.out.println(tests.size() + " tests of sentences, " + answers + " answers, " + wrong + " tests failed");
        return wrong;
    }

    private static int compare(Document document) {
        int wrong = 0;
        for (Bounds test : Bounds.all()) {
            if (!document.quotes(test.place, test.sentence)) {
                wrong++;
                System.out.println(test.place + " doesn't say \"" + test.sentence + "\"");
            }
        }
        for (String place : Document.places()) {
            String left = document.leftOf(place);
            if (!left.isEmpty()) {
                wrong++;
                System.out.println(place + ", without a test: " + left);
            }
        }
        return wrong;
    }
}
