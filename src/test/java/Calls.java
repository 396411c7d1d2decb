import java.util.ArrayList;
import java.util.LinkedHashMap;
import java.util.List;
import java.util.Map;

/** The calls of the face by their names, with arguments that are fine on a desk of prepared(). */
final class Calls {
    interface Call {
        void on(BurstDesk desk);
    }

    /** The 36 calls of which the document tells a number, by which they may be refused. */
    static final Map<String, Call> TOLD = new LinkedHashMap<>();
    /** The other six. */
    static final Map<String, Call> SILENT = new LinkedHashMap<>();
    /** Those that a desk without a MACHINE refuses by 1: all of the first sort but machine(). */
    static final List<String> NEED_MACHINE = new ArrayList<>();

    private static final String TEXT = "state 0;begin 0 /";

    static {
        TOLD.put("machine", d -> d.machine(TEXT.length()));
        TOLD.put("bad", d -> d.bad());
        TOLD.put("badAt", d -> d.badAt());
        TOLD.put("state", d -> d.state(0, 0));
        TOLD.put("arc", d -> d.arc(0, 0));
        TOLD.put("gate", d -> d.gate(0, 0));
        TOLD.put("at", d -> d.at(0, 0));
        TOLD.put("points", d -> d.points(0, 0));
        TOLD.put("required", d -> d.required(0));
        TOLD.put("requiredCube", d -> d.requiredCube(0, 0));
        TOLD.put("falls", d -> d.falls(0));
        TOLD.put("safe", d -> d.safe(0, 0));
        TOLD.put("primes", d -> d.primes(0));
        TOLD.put("prime", d -> d.prime(0, 0));
        TOLD.put("needed", d -> d.needed(0));
        TOLD.put("lacking", d -> d.lacking(0));
        TOLD.put("fewest", d -> d.fewest(0));
        TOLD.put("chosen", d -> d.chosen(0, 0));
        TOLD.put("literals", d -> d.literals(0));
        TOLD.put("formula", d -> d.formula(0));
        TOLD.put("sign", d -> d.sign(0, 0));
        TOLD.put("harm", d -> d.harm(0, 0));
        TOLD.put("glitch", d -> d.glitch(0));
        TOLD.put("run", d -> d.run(0, 0, false));
        TOLD.put("runBurst", d -> d.runBurst(0, 0, false));
        TOLD.put("settles", d -> d.settles(0));
        TOLD.put("settled", d -> d.settled(0));
        TOLD.put("push", d -> d.push(0));
        TOLD.put("walk", d -> d.walk(0));
        TOLD.put("shown", d -> d.shown());
        TOLD.put("codings", d -> d.codings(2));
        TOLD.put("coding", d -> d.coding(2, 0));
        TOLD.put("recode", d -> d.recode(0, 0));
        TOLD.put("strike", d -> d.strike(0));
        TOLD.put("add", d -> d.add(0, 0));
        TOLD.put("undo", d -> d.undo());
        SILENT.put("feed", d -> d.feed(0, 0, 0, 0, 0));
        SILENT.put("fault", d -> d.fault());
        SILENT.put("where", d -> d.where());
        SILENT.put("last", Calls::lastOrNone);
        SILENT.put("size", d -> d.size(0));
        SILENT.put("size of another what", d -> d.size(6));
        SILENT.put("trouble", d -> d.trouble());
        NEED_MACHINE.addAll(TOLD.keySet());
        NEED_MACHINE.remove("machine");
    }

    private Calls() {
    }

    /** BOTH has no STATE without an ARC from it: last() throws. */
    private static void lastOrNone(BurstDesk desk) {
        try {
            desk.last(0);
        } catch (java.util.NoSuchElementException e) {
            desk.fault();
        }
    }

    /** With a MACHINE, an ACT that can be undone and a text on THE TAPE. */
    static BurstDesk prepared() {
        BurstDesk desk = Desks.of(Desks.BOTH);
        desk.add(0, 728);
        Texts.feed(desk, TEXT);
        return desk;
    }
}
