import java.util.ArrayList;
import java.util.List;
import java.util.NoSuchElementException;

/**
 * One test of one sentence of the document: it is named by its promise (or its place in the Terms) and by the words
 * of the document themselves, which Document looks up, so that no test can belong to a sentence that isn't there.
 */
final class Bounds {
    /** What a test does; it gets the Bounds that take its answers. */
    interface Case {
        void on(Bounds due);
    }

    /** A call of a FUNCTION, an ARC, a cube or whatever its one number is. */
    interface Ask {
        int of(BurstDesk desk, int number);
    }

    private static final List<Bounds> ALL = new ArrayList<>();

    final String place;
    final String sentence;
    private int answers;
    private final List<String> faults = new ArrayList<>();

    private Bounds(String place, String sentence) {
        this.place = place;
        this.sentence = sentence;
    }

    static List<Bounds> all() {
        return ALL;
    }

    /** A test of a sentence of a promise. */
    static void of(int promise, String sentence, Case test) {
        run(Document.promise(promise), sentence, test);
    }

    /** A test of a sentence of the Terms I .. V. */
    static void ofTerm(String number, String sentence, Case test) {
        run(Document.term(number), sentence, test);
    }

    /** A test of the rows behind the Terms, or of what stands first. */
    static void ofRest(String sentence, Case test) {
        run(Document.REST, sentence, test);
    }

    private static void run(String place, String sentence, Case test) {
        Bounds bounds = new Bounds(place, sentence);
        ALL.add(bounds);
        try {
            test.on(bounds);
        } catch (RuntimeException e) {
            bounds.faults.add("threw " + e);
        }
    }

    int answers() {
        return answers;
    }

    List<String> faults() {
        return faults;
    }

    void is(String call, Object got, Object due) {
        answers++;
        if (!got.equals(due)) {
            faults.add(call + " answered " + got + ", due is " + due);
        }
    }

    /** A call that is not refused. */
    void told(BurstDesk desk, String call, int got, int due) {
        is(call, got, due);
        is("trouble() behind " + call, desk.trouble(), 0);
    }

    /** A call that is refused by this TROUBLE. */
    void no(BurstDesk desk, String call, int got, int trouble) {
        is(call, got, BurstDesk.NONE);
        is("trouble() behind " + call, desk.trouble(), trouble);
    }

    /** Numbers that are none of 0 .. count - 1. */
    void noneOutside(BurstDesk desk, String call, int count, int trouble, Ask ask) {
        for (int number : outside(0, count - 1)) {
            no(desk, call + " of " + number, ask.of(desk, number), trouble);
        }
    }

    static int[] outside(int least, int most) {
        return new int[] {least - 1, most + 1, most + 2, Integer.MIN_VALUE, Integer.MAX_VALUE};
    }

    void lawful(String text) {
        BurstDesk desk = new BurstDesk();
        Texts.feed(desk, text);
        is("machine() of " + text, desk.machine(text.length()) >= 0, true);
        is("trouble() of " + text, desk.trouble(), 0);
        is("fault() of " + text, desk.fault(), 0);
        is("where() of " + text, desk.where(), -1);
    }

    void faulty(String text, int fault, int where) {
        BurstDesk desk = new BurstDesk();
        Texts.feed(desk, text);
        no(desk, "machine() of " + text, desk.machine(text.length()), 4);
        is("fault() of " + text, desk.fault(), fault);
        is("where() of " + text, desk.where(), where);
    }

    void noLast(BurstDesk desk, int i) {
        String got;
        try {
            got = "" + desk.last(i);
        } catch (NoSuchElementException e) {
            got = "NoSuchElementException";
        }
        is("last(" + i + ")", got, "NoSuchElementException");
    }

    void undone(BurstDesk desk) {
        is("undo()", desk.undo(), true);
        is("trouble() behind undo()", desk.trouble(), 0);
    }

    void notUndone(BurstDesk desk) {
        is("undo()", desk.undo(), false);
        is("trouble() behind undo()", desk.trouble(), 1);
    }

    /** All that is seen of a MACHINE and of THE WALK, in some 130 calls. */
    static String portrait(BurstDesk desk) {
        StringBuilder seen = new StringBuilder();
        for (int what : new int[] {0, 1, 2, 3, 5}) {
            seen.append(" size ").append(desk.size(what));
        }
        for (int i = 0; i < 6; i++) {
            seen.append(" state");
            for (int what = 0; what < 3; what++) {
                seen.append(' ').append(desk.state(i, what));
            }
        }
        for (int i = 0; i < 8; i++) {
            seen.append(" arc");
            for (int what = 0; what < 7; what++) {
                seen.append(' ').append(desk.arc(i, what));
            }
        }
        for (int i = 0; i < 16; i++) {
            seen.append(" gate ").append(desk.gate(i, 0)).append(' ').append(desk.gate(i, 1));
        }
        seen.append(" bad ").append(desk.bad()).append(' ').append(desk.badAt());
        for (int what = 0; what < 4; what++) {
            seen.append(" walk ").append(desk.walk(what));
        }
        return seen.toString();
    }
}
