import java.util.NoSuchElementException;

/**
 * The promises one by one. Answers are found by hand from the document, but for those of the larger machines (rows of
 * FEWEST with ties, six PRIMES, no COVER, no codes): made-up machines, searched with the class, on which PlainDesk agrees.
 */
public final class PromiseTest {
    /** Two inputs rise, an output does; both fall, it falls: p = ab + as + bs. */
    private static final String BOTH = "state 0;state 1;begin 0 /;arc 0 1 a+ b+ / p+;arc 1 0 a- b- / p-";
    /** A state alone: CODE 3, nothing but p is 1. */
    private static final String ALONE = "state 3;begin 0 / p";
    /** p falls by two inputs, and nothing comes behind it. */
    private static final String FALL = "state 0;state 0;begin 0 / p;arc 0 1 a+ b+ / p-";
    /** No COVER of p: between a fall and what rises inside it there is no SAFE cube. */
    private static final String LACKING = "state 1;state 0;state 0;state 2;begin 0 / ;"
            + "arc 0 1 b+ / p+ r+;arc 1 2 b- /;arc 2 3 b+ d+ / p- r-";
    /** r has six PRIMES at least. */
    private static final String SIX = "state 2;state 0;state 1;begin 0 / r;"
            + "arc 0 1 a+ b+ c+ d+ / p+ r-;arc 1 2 a- b- d- / r+;arc 2 1 a+ b+ d+ / r-";
    /** Two ways from the first state; c alone comes from the second. */
    private static final String WAYS = "state 0;state 1;state 2;begin 0 / q;"
            + "arc 0 1 a+ b+ / p+;arc 0 2 b+ c+ / q-;arc 1 0 a- b- / p-";

    private static int wrong;
    private static int asked;

    public static void main(String[] args) {
        newObject();
        feeds();
        machines();
        faults();
        places();
        bads();
        badAgain();
        badPlaces();
        states();
        arcs();
        gates();
        values();
        counts();
        requiredCubes();
        falling();
        safeCubes();
        primeCubes();
        neededPrimes();
        lackingCubes();
        fewestPrimes();
        chosenPrimes();
        formulas();
        harms();
        glitches();
        runs();
        burstRuns();
        feedback();
        pushes();
        walks();
        showings();
        codeCounts();
        firstCodes();
        recodes();
        strikes();
        adds();
        undos();
        lasts();
        sizes();
        troubles();
        System.out.println(asked + " answers, " + wrong + " not as due");
        if (wrong != 0) {
            System.exit(1);
        }
    }

    private static void due(String what, Object got, Object due) {
        asked++;
        if (!got.equals(due)) {
            wrong++;
            System.out.println(what + ": answered " + got + ", due is " + due);
        }
    }

    /** A call that is refused: NONE, and this TROUBLE. */
    private static void refused(String what, BurstDesk desk, int got, int trouble) {
        due(what, got, BurstDesk.NONE);
        due(what + ", trouble", desk.trouble(), trouble);
    }

    /** A call that is not refused. */
    private static void told(String what, BurstDesk desk, int got, int due) {
        due(what, got, due);
        due(what + ", trouble", desk.trouble(), 0);
    }

    private static BurstDesk desk(String text) {
        BurstDesk desk = new BurstDesk();
        if (Texts.machine(desk, text) < 0) {
            due("the text " + text, "fault " + desk.fault() + " at " + desk.where(), "none");
        }
        return desk;
    }

    // ---- 1 to 5

    private static void newObject() {
        BurstDesk desk = new BurstDesk();
        due("1: trouble", desk.trouble(), 0);
        due("1: fault", desk.fault(), 0);
        due("1: where", desk.where(), -1);
        for (int what = 0; what < 6; what++) {
            due("1: size " + what, desk.size(what), 0);
        }
        refused("1: bad", desk, desk.bad(), 1);
        refused("1: badAt", desk, desk.badAt(), 1);
        refused("1: shown", desk, desk.shown(), 1);
        refused("1: codings", desk, desk.codings(9), 1);
        due("1: NONE", BurstDesk.NONE, -1);
    }

    private static void feeds() {
        BurstDesk desk = new BurstDesk();
        refused("2: bad", desk, desk.bad(), 1);
        for (int i = 1; i <= 30; i++) {
            due("2: feed " + i, desk.feed(i, 0, -1, 7, 9), 20 * i);
        }
        due("2: feed without room", desk.feed(0, 0, 0, 0, 0), -1);
        due("2: nothing came", desk.size(4), 600);
        due("2: feed tells no trouble", desk.trouble(), 1);
        BurstDesk order = new BurstDesk();
        order.feed('s' << 24 | 't' << 16 | 'a' << 8 | 't', 'e' << 24 | '1' << 16 | ';' << 8 | 'b',
                'e' << 24 | 'g' << 16 | 'i' << 8 | 'n', '0' << 24 | '/' << 16 | 0xFFFF, -1);
        due("2: the highest byte first", order.machine(14), 0);
        due("2: its code", order.state(0, 0), 1);
    }

    private static void machines() {
        BurstDesk desk = desk(BOTH);
        due("3: arcs", desk.size(1), 2);
        due("3: the tape is empty", desk.size(4), 0);
        desk.add(0, 728);
        Texts.feed(desk, "state 0;begin 0 /;xxxxxx");
        refused("3: below 0", desk, desk.machine(-1), 2);
        refused("3: more than there is", desk, desk.machine(41), 2);
        refused("3: far more", desk, desk.machine(Integer.MAX_VALUE), 2);
        due("3: the tape stays", desk.size(4), 40);
        due("3: no fault by 2", desk.fault(), 0);
        refused("3: a fault", desk, desk.machine(40), 4);
        due("3: the tape is empty by a fault", desk.size(4), 0);
        due("3: the machine stays", desk.size(0), 2);
        due("3: its acts stay", desk.size(3), 1);
        Texts.feed(desk, "state 0;begin 0 /;xxxxxx");
        told("3: the first bytes alone", desk, desk.machine(17), 0);
        due("3: the new one", desk.size(0), 1);
        due("3: nothing to undo", desk.undo(), false);
        due("3: the tape's rest is gone", desk.size(4), 0);
        Texts.feed(desk, BOTH);
        due("3: how many arcs", desk.machine(BOTH.length()), 2);
    }

    private static void faults() {
        String six = "state 0;state 1;state 2;state 3;state 0;state 0;begin 0 /";
        String eight = "state 0;state 0;begin 0 /" + ";arc 0 1 a+ /".repeat(8);
        String sixteen = "state 0;begin 0 /" + ";gate p".repeat(16);
        faultless(six);
        faultless(eight);
        faultless(sixteen);
        faultless("   state   000;  begin0/");
        faultless("state 3;begin 0 d c b a/r q p");
        faultless("state0;begin00/;arc0 0a+b-c+d-/p+q-r+;gate p a b'c d's t'");
        faultless("state 0;arc 0 0 a + / p -;begin 0 / ");
        faultless("state 0;begin 0 /;gate t t s d c b a");
        faulty("gate t t s d c b a a", 3, 19);
        faulty("state 0;begin 0 a b c d a /", 3, 24);
        faulty("state 0;begin 0 / p q r r", 3, 24);
        faulty("state 0;arc 0 0 a+ b+ c+ d+ d+ /", 3, 28);
        faulty("state 0;begin 0 z /", 1, 16);
        faulty("gate z", 1, 5);
        faulty("ttate 0", 1, 0);
        faulty("000 0", 1, 0);
        faulty("", 1, 0);
        faulty("    ", 1, 4);
        faulty(";", 1, 0);
        faulty("state", 1, 5);
        faulty("state ", 1, 6);
        faulty("state 0;", 1, 8);
        faulty("state 0;begin 0 /;", 1, 18);
        faulty("state 0;;begin 0 /", 1, 8);
        faulty("stat 0", 1, 0);
        faulty("states 0", 1, 0);
        faulty("State 0", 1, 0);
        faulty("state a", 1, 6);
        faulty("state 0 0", 1, 8);
        faulty("state 0000", 1, 6);
        faulty("state 0\n;begin 0 /", 1, 7);
        faulty("state 0,begin 0 /", 1, 7);
        faulty("state -1", 1, 6);
        faulty("begin", 1, 5);
        faulty("state 0;begin /", 1, 14);
        faulty("state 0;begin 0 ab /", 1, 16);
        faulty("state 0;begin 0 p /", 1, 16);
        faulty("state 0;begin 0 a+ /", 1, 17);
        faulty("state 0;begin 0 a", 1, 17);
        faulty("state 0;begin 0 / a", 1, 18);
        faulty("state 0;begin 0 / p /", 1, 20);
        faulty("state 0;arc 0 0 / p+", 1, 16);
        faulty("state 0;arc 0 0 a /", 1, 18);
        faulty("state 0;arc 0 0 a+", 1, 18);
        faulty("state 0;arc 0 0 s+ /", 1, 16);
        faulty("state 0;arc 0 0 a+ / a+", 1, 21);
        faulty("state 0;arc 0 0 a+ / p", 1, 22);
        faulty("state 0;arc 0 0 a' /", 1, 17);
        faulty("state 0;arc 0 a+ /", 1, 14);
        faulty("gate", 1, 4);
        faulty("gate a", 1, 5);
        faulty("gate pq", 1, 5);
        faulty("gate p '", 1, 7);
        faulty("gate p a''", 1, 9);
        faulty("gate p p", 1, 7);
        faulty("gate p a+", 1, 8);
        faulty("begin 0 /", 2, 6);
        faulty("state 0;begin 1 /", 2, 14);
        faulty("state 0;begin 999 /", 2, 14);
        faulty("state 0;arc 0 1 a+ /;state 0", 2, 14);
        faulty("state 0;arc 1 0 a+ /", 2, 12);
        faulty("state 0;begin 0 a b a /", 3, 20);
        faulty("state 0;begin 0 / p q p", 3, 22);
        faulty("state 0;begin 0 /;begin 0 /", 3, 18);
        faulty("state 0;begin 0 /;begin", 3, 18);
        faulty("state 0;arc 0 0 a+ b+ a- /", 3, 22);
        faulty("state 0;arc 0 0 a+ / p+ p+", 3, 24);
        faulty("gate p a b a'", 3, 11);
        faulty("gate p s a s", 3, 11);
        faulty("state 4", 4, 6);
        faulty("state 999;gate x", 4, 6);
        faulty(six + ";state 0", 5, six.length() + 1);
        faulty(six + ";state", 5, six.length() + 1);
        faulty(eight + ";arc 9", 5, eight.length() + 1);
        faulty(sixteen + ";gate", 5, sixteen.length() + 1);
        faulty("state 0", 6, 7);
        faulty("state 0  ", 6, 9);
        faulty("state 0;gate p a", 6, 16);
    }

    private static void faultless(String text) {
        BurstDesk desk = new BurstDesk();
        Texts.feed(desk, text);
        due("4: arcs of " + text, desk.machine(text.length()) >= 0, true);
        due("4: fault of " + text, desk.fault(), 0);
        due("5: where of " + text, desk.where(), -1);
    }

    private static void faulty(String text, int fault, int where) {
        BurstDesk desk = new BurstDesk();
        Texts.feed(desk, text);
        refused("4: " + text, desk, desk.machine(text.length()), 4);
        due("4: fault of " + text, desk.fault(), fault);
        due("5: where of " + text, desk.where(), where);
    }

    private static void places() {
        BurstDesk desk = desk(BOTH);
        Texts.machine(desk, "state 7");
        due("5: where", desk.where(), 6);
        due("5: again", desk.where(), 6);
        desk.size(0);
        desk.feed(0, 0, 0, 0, 0);
        due("5: behind calls that can't be refused", desk.where(), 6);
        desk.machine(99);
        due("5: refused by 2", desk.where(), -1);
        due("4: stays by 2", desk.fault(), 4);
        desk.machine(0);
        due("5: at the end", desk.where(), 0);
        desk.bad();
        due("5: behind another call", desk.where(), -1);
        due("4: stays", desk.fault(), 1);
        due("4: a lawful one", Texts.machine(desk, "state 0;begin 0 /"), 0);
        due("4: none then", desk.fault(), 0);
    }

    // ---- 6 to 10

    private static final Object[][] BADS = {
        {BOTH, 0, -2},
        {"state 0;state 1;begin 0 a /;arc 0 1 a+ /", 1, 0},
        {"state 0;state 1;begin 0 /;arc 0 1 a- /", 1, 0},
        {"state 0;state 1;begin 0 / q;arc 0 1 a+ / q+", 1, 0},
        {"state 0;state 1;begin 0 /;arc 0 1 a+ / r-", 1, 0},
        {"state 0;state 1;state 2;begin 0 /;arc 1 2 a+ /;arc 0 1 a+ /", 1, 0},
        {"state 0;state 1;begin 0 /;arc 0 1 a+ / p+;arc 0 1 b+ / p+", 2, 1},
        {"state 0;state 1;begin 0 /;arc 0 1 a+ / p+;arc 0 1 a+ / q+", 2, 1},
        {"state 0;begin 0 /;arc 0 0 a+ /", 2, 0},
        {"state 0;state 1;state 2;begin 0 /;arc 0 2 a+ /", 3, 1},
        {"state 0;state 1;begin 1 /;arc 0 1 a+ /", 3, 0},
        {"state 0;state 1;state 2;begin 0 /;arc 1 2 a+ /", 3, 1},
        {"state 0;state 1;state 2;begin 0 /;arc 0 1 a+ b+ /;arc 0 2 b+ /", 4, 1},
        {"state 0;state 1;begin 0 /;arc 0 1 a+ / p+;arc 0 1 a+ / p+", 4, 0},
        {"state 3;state 3;state 3;begin 0 /;arc 1 2 c- /;arc 0 1 c+ / q+", 5, 2},
        // At the end of the second burst, CODE still 1, t has to be 1; in state 0 it has to be 0.
        {"state 1;state 1;state 3;begin 0 /;arc 0 1 d+ /;arc 1 2 d- /", 6, 1},
        // The point of state 2 lies on the way of arc 0: all states count ahead of the first arc.
        {"state 0;state 0;state 0;begin 0 /;arc 0 1 a+ b+ / p+;arc 1 2 b- /", 6, 0},
        {"state 0;state 0;state 0;begin 0 /;arc 0 1 a+ b+ /;arc 0 2 b+ c+ / p+", 0, -2},
        // Both bits turn at once: on the way CODE 0 is met, in which t has to be 0.
        {"state 0;state 1;state 2;begin 0 /;arc 0 1 a+ / p+;arc 1 2 a- / p-", 6, 1},
        {"state 0;state 1;state 3;begin 0 /;arc 0 1 a+ / p+;arc 1 2 a- / p-", 0, -2},
        {"state 0;state 1;state 0;begin 0 /;arc 0 1 a+ / p+;arc 1 2 a- / p-", 0, -2},
        // The first turn takes t to 1 at a, CODE 1; the third burst begins to go through that point with t 0.
        {"state 0;state 3;state 1;begin 0 /;arc 0 1 a+ / p+;arc 1 2 b+ / p-;arc 2 0 a- b- /", 6, 2},
        {"state 0;state 1;state 3;state 0;begin 0 /;arc 0 1 a+ /;arc 1 2 b+ /;arc 2 3 b- /", 6, 0},
        {"state 0;state 1;state 3;state 2;begin 0 /;arc 0 1 a+ /;arc 1 2 b+ /;arc 2 3 b- /", 0, -2},
    };

    private static void bads() {
        for (Object[] row : BADS) {
            BurstDesk desk = desk((String) row[0]);
            told("6: " + row[0], desk, desk.bad(), (Integer) row[1]);
        }
        BurstDesk empty = new BurstDesk();
        refused("6: no machine", empty, empty.bad(), 1);
    }

    private static void badAgain() {
        BurstDesk desk = desk(WAYS);
        Texts.machine(desk, "state 0;state 1;begin 1 /");
        told("6: nothing stays of the machine ahead", desk, desk.bad(), 3);
        told("7: nothing stays", desk, desk.badAt(), 0);
        told("8: nothing stays", desk, desk.state(0, 1), -2);
        Texts.machine(desk, BOTH);
        told("6: lawful again", desk, desk.bad(), 0);
    }

    private static void badPlaces() {
        for (Object[] row : BADS) {
            BurstDesk desk = desk((String) row[0]);
            told("7: " + row[0], desk, desk.badAt(), (Integer) row[2]);
        }
        BurstDesk empty = new BurstDesk();
        refused("7: no machine", empty, empty.badAt(), 1);
    }

    private static void states() {
        BurstDesk desk = desk("state 2;state 3;state 1;begin 1 a d / q r;arc 1 0 a- b+ / r- p+");
        told("8: code", desk, desk.state(0, 0), 2);
        told("8: code of 1", desk, desk.state(1, 0), 3);
        told("8: inputs of begin", desk, desk.state(1, 1), 9);
        told("8: outputs of begin", desk, desk.state(1, 2), 6);
        told("8: inputs behind the arc", desk, desk.state(0, 1), 10);
        told("8: outputs behind the arc", desk, desk.state(0, 2), 3);
        told("8: inputs, no values", desk, desk.state(2, 1), -2);
        told("8: outputs, no values", desk, desk.state(2, 2), -2);
        told("8: code, no values", desk, desk.state(2, 0), 1);
        refused("8: no such", desk, desk.state(3, 0), 1);
        refused("8: below 0", desk, desk.state(-1, 0), 1);
        refused("8: another what", desk, desk.state(0, 3), 1);
        refused("8: what below 0", desk, desk.state(0, -1), 1);
        refused("8: extremes", desk, desk.state(Integer.MAX_VALUE, Integer.MIN_VALUE), 1);
        // A state that an arc of BAD 2 leads to keeps its values.
        BurstDesk two = desk("state 0;state 1;begin 0 /;arc 0 1 a+ / p+;arc 0 1 b+ / q+");
        told("8: inputs kept", two, two.state(1, 1), 1);
        told("8: outputs kept", two, two.state(1, 2), 1);
    }

    private static void arcs() {
        BurstDesk desk = desk("state 0;state 1;state 2;begin 0 b d / p q;arc 0 1 a+ b- c+ d- / p- r+;"
                + "arc 1 2 b- /;arc 0 1 a+ / q-");
        int[] due = {0, 1, 5, 10, 4, 1, 1};
        for (int what = 0; what < 7; what++) {
            told("9: part " + what, desk, desk.arc(0, what), due[what]);
        }
        told("9: gone along by 1", desk, desk.arc(1, 6), 1);
        told("9: nothing behind it", desk, desk.arc(2, 6), 0);
        told("9: outputs that fall", desk, desk.arc(2, 5), 2);
        due("9: bad", desk.bad(), 1);
        refused("9: no such", desk, desk.arc(3, 0), 1);
        refused("9: below 0", desk, desk.arc(-1, 0), 1);
        refused("9: another what", desk, desk.arc(0, 7), 1);
        refused("9: what below 0", desk, desk.arc(0, -1), 1);
        BurstDesk two = desk("state 0;state 1;begin 0 /;arc 0 1 a+ /;arc 0 1 b+ /;arc 1 0 a- /");
        due("9: bad", two.bad(), 2);
        told("9: gone along by 2", two, two.arc(1, 6), 1);
        told("9: not behind 2", two, two.arc(2, 6), 0);
    }

    private static void gates() {
        BurstDesk desk = desk("state 0;begin 0 /;gate p;gate t a b' s t';gate q d;gate r t s' a'");
        int[] functions = {0, 4, 1, 2};
        String[] cubes = {"------", "10--10", "---1--", "0---01"};
        for (int i = 0; i < 4; i++) {
            told("10: function " + i, desk, desk.gate(i, 0), functions[i]);
            told("10: cube " + i, desk, desk.gate(i, 1), Texts.cube(cubes[i]));
        }
        refused("10: no such", desk, desk.gate(4, 0), 1);
        refused("10: below 0", desk, desk.gate(-1, 1), 1);
        refused("10: another what", desk, desk.gate(0, 2), 1);
        refused("10: what below 0", desk, desk.gate(0, -1), 1);
    }

    // ---- 11 to 20: functions

    private interface OfFunction {
        int ask(BurstDesk desk, int f);
    }

    /** What all calls of a function are refused by: 1 ahead of 5. */
    private static void guarded(String what, OfFunction call) {
        BurstDesk empty = new BurstDesk();
        refused(what + ", no machine", empty, call.ask(empty, 0), 1);
        BurstDesk desk = desk(BOTH);
        refused(what + ", function 5", desk, call.ask(desk, 5), 1);
        refused(what + ", function -1", desk, call.ask(desk, -1), 1);
        BurstDesk bad = desk("state 0;state 1;begin 0 /");
        refused(what + ", bad", bad, call.ask(bad, 0), 5);
        refused(what + ", bad and function 5", bad, call.ask(bad, 5), 1);
    }

    private static void values() {
        BurstDesk desk = desk(BOTH);
        // p at CODE 0: 0 until both are 1; at CODE 1: 1 until both are 0; the turns take s either way.
        int[] due = {0, 0, 0, 1, 0, 1, 1, 1};
        int[] points = {0, 1, 2, 3, 16, 17, 18, 19};
        for (int i = 0; i < 8; i++) {
            told("11: p at " + points[i], desk, desk.at(0, points[i]), due[i]);
            told("11: s at " + points[i], desk, desk.at(3, points[i]), due[i]);
            told("11: q at " + points[i], desk, desk.at(1, points[i]), 0);
        }
        told("11: either", desk, desk.at(0, 4), 2);
        told("11: the last", desk, desk.at(4, 63), 2);
        refused("11: a point", desk, desk.at(0, 64), 2);
        refused("11: below 0", desk, desk.at(0, -1), 2);
        guarded("11", (d, f) -> d.at(f, 64));
        // A turn of both bits: all four codes have what is in the second state.
        BurstDesk turn = desk("state 1;state 2;begin 0 /;arc 0 1 a+ / p+");
        for (int code = 0; code < 4; code++) {
            told("11: turn, p", turn, turn.at(0, 1 + 16 * code), 1);
            told("11: turn, s", turn, turn.at(3, 1 + 16 * code), 0);
            told("11: turn, t", turn, turn.at(4, 1 + 16 * code), 1);
        }
        told("11: the first state", turn, turn.at(3, 16), 1);
    }

    private static void counts() {
        BurstDesk desk = desk(BOTH);
        told("12: 0", desk, desk.points(0, 0), 4);
        told("12: 1", desk, desk.points(0, 1), 4);
        told("12: either", desk, desk.points(0, 2), 56);
        told("12: t", desk, desk.points(4, 0), 8);
        refused("12: 3", desk, desk.points(0, 3), 2);
        refused("12: -1", desk, desk.points(0, -1), 2);
        guarded("12", (d, f) -> d.points(f, 9));
        BurstDesk alone = desk(ALONE);
        told("12: a point alone", alone, alone.points(0, 1), 1);
        told("12: no zero", alone, alone.points(0, 0), 0);
    }

    private static void required(String what, BurstDesk desk, int f, String... cubes) {
        told("13: " + what, desk, desk.required(f), cubes.length);
        for (int i = 0; i < cubes.length; i++) {
            told("14: " + what + " " + i, desk, desk.requiredCube(f, i), Texts.cube(cubes[i]));
        }
        refused("14: " + what + ", behind", desk, desk.requiredCube(f, cubes.length), 1);
    }

    private static void requiredCubes() {
        required("p rises and falls", desk(BOTH), 0, "1100-0", "1-0010", "-10010");
        required("q is never 1", desk(BOTH), 1);
        required("a point alone", desk(ALONE), 0, "000011");
        required("it falls", desk(FALL), 0, "0-0000", "-00000", "000000");
        // 1 in both: the burst, then the turn; begin's own point is a cube of its own behind all.
        required("1 in both", desk("state 1;state 2;begin 0 c / q;arc 0 1 a+ d+ /"), 1, "-01-10", "1011--", "001010");
        required("a fall by its inputs in turn", desk("state 0;state 1;state 0;begin 0 /;arc 0 1 a+ b+ / p+;arc 0 2 b+ c+ /;"
                + "arc 1 2 a- c+ / p-"), 0, "1100-0", "11-010", "-10010");
        // The first turn and the last are one cube, numbered once; it lies within the burst, and counts all the same.
        required("each once", desk("state 0;state 0;state 0;begin 0 /;arc 0 1 a+ / p+;arc 1 2 b+ /;"
                + "arc 2 1 b- /"), 0, "100000", "1-0000", "110000");
        BurstDesk desk = desk(BOTH);
        refused("14: below 0", desk, desk.requiredCube(0, -1), 1);
        guarded("13", (d, f) -> d.required(f));
        guarded("14", (d, f) -> d.requiredCube(f, 99));
    }

    private static void falling() {
        BurstDesk desk = desk(BOTH);
        told("15: p", desk, desk.falls(0), 1);
        told("15: q", desk, desk.falls(1), 0);
        told("15: s", desk, desk.falls(3), 1);
        BurstDesk six = desk(SIX);
        told("15: r twice", six, six.falls(2), 2);
        guarded("15", (d, f) -> d.falls(f));
    }

    private static void safeCubes() {
        BurstDesk desk = desk(BOTH);
        told("16: ab", desk, desk.safe(0, Texts.cube("11----")), 1);
        told("16: all", desk, desk.safe(0, 728), 0);
        told("16: within the burst, without its beginning", desk, desk.safe(0, Texts.cube("100010")), 0);
        told("16: with its beginning", desk, desk.safe(0, Texts.cube("1-0010")), 1);
        told("16: elsewhere", desk, desk.safe(0, Texts.cube("--1---")), 1);
        told("16: nothing falls", desk, desk.safe(1, Texts.cube("-----1")), 1);
        refused("16: a cube", desk, desk.safe(0, 729), 2);
        refused("16: below 0", desk, desk.safe(0, -1), 2);
        guarded("16", (d, f) -> d.safe(f, 729));
    }

    private static void primes(String what, BurstDesk desk, int f, String... cubes) {
        told("17: " + what, desk, desk.primes(f), cubes.length);
        for (int i = 0; i < cubes.length; i++) {
            told("18: " + what + " " + i, desk, desk.prime(f, i), Texts.cube(cubes[i]));
        }
        refused("18: " + what + ", behind", desk, desk.prime(f, cubes.length), 1);
    }

    private static void primeCubes() {
        primes("p", desk(BOTH), 0, "11----", "1---1-", "-1--1-", "--1---", "---1--", "-----1");
        primes("q", desk(BOTH), 1, "--1---", "---1--", "-----1");
        primes("all", desk(ALONE), 0, "------");
        primes("all but a point", desk(ALONE), 1, "1-----", "-1----", "--1---", "---1--", "----0-", "-----0");
        BurstDesk desk = desk(BOTH);
        refused("18: below 0", desk, desk.prime(0, -1), 1);
        guarded("17", (d, f) -> d.primes(f));
        guarded("18", (d, f) -> d.prime(f, 999));
    }

    private static void neededPrimes() {
        BurstDesk desk = desk(BOTH);
        told("19: p", desk, desk.needed(0), 3);
        told("19: q", desk, desk.needed(1), 0);
        BurstDesk alone = desk(ALONE);
        told("19: one", alone, alone.needed(0), 1);
        BurstDesk ties = desk("state 0;state 1;state 0;begin 0 d /;arc 0 1 a+ / q+;arc 1 2 b+ d- /");
        told("19: each has another", ties, ties.needed(3), 0);
        guarded("19", (d, f) -> d.needed(f));
    }

    private static void lackingCubes() {
        BurstDesk desk = desk(BOTH);
        told("20: none", desk, desk.lacking(0), -2);
        told("20: none is required", desk, desk.lacking(1), -2);
        BurstDesk lacking = desk(LACKING);
        // The first turn, 01000-, begins the second burst from inside: no SAFE cube holds it and not its beginning.
        told("20: p", lacking, lacking.lacking(0), 0);
        guarded("20", (d, f) -> d.lacking(f));
    }

    // ---- 21 to 25

    private static void fewestPrimes() {
        BurstDesk desk = desk(BOTH);
        told("21: p", desk, desk.fewest(0), 3);
        told("21: q", desk, desk.fewest(1), 0);
        BurstDesk lacking = desk(LACKING);
        told("21: no cover", lacking, lacking.fewest(0), -2);
        BurstDesk six = desk(SIX);
        told("21: more than five", six, six.fewest(2), 6);
        BurstDesk five = desk("state 3;state 2;begin 0 /;arc 1 0 a- b- c- d- / r-;arc 0 1 a+ b+ c+ d+ / r+");
        told("21: five", five, five.fewest(2), 5);
        guarded("21", (d, f) -> d.fewest(f));
    }

    /** FEWEST by its row of PRIMES, where PRIMES between them would hold some of what is required, too. */
    private static void row(String text, int f, String formula, int... chosen) {
        BurstDesk desk = desk(text);
        due("22: formula", Texts.formula(desk, f), formula);
        for (int i = 0; i < chosen.length; i++) {
            told("22: " + formula + " " + i, desk, desk.chosen(f, i), chosen[i]);
        }
        refused("22: behind " + formula, desk, desk.chosen(f, chosen.length), 1);
    }

    private static void chosenPrimes() {
        row("state 3;state 0;state 0;begin 0 c /;arc 0 1 a+ c- /;arc 1 2 a- c+ /", 3, "a's+cs", 0, 3);
        row("state 0;state 3;state 3;begin 0 b /;arc 1 2 a- b- /;arc 0 1 a+ d+ /", 3, "ad+s", 0, 3);
        row("state 1;state 2;state 3;begin 0 c /;arc 1 2 a- /;arc 0 1 a+ /", 4, "a+t", 0, 5);
        row("state 3;state 0;state 0;begin 0 b c / p;arc 0 1 a+ b- c- / p-;arc 1 2 a- b+ c+ /", 0,
                "a's+bs+cs", 0, 2, 4);
        row("state 3;state 0;state 3;begin 0 / q;arc 0 1 b+ c+ d+ /;arc 1 2 b- c- /", 3,
                "b'c'+b's+c's+d'", 1, 2, 4, 6);
        row("state 3;state 0;state 2;begin 0 b c d / q;arc 1 2 b+ c+ d+ /;arc 0 1 a+ b- c- d- / p+ q-", 4,
                "a'+bcd+bs+cs+ds", 0, 1, 2, 4, 6);
        BurstDesk desk = desk(BOTH);
        for (int i = 0; i < 3; i++) {
            told("22: p " + i, desk, desk.chosen(0, i), i);
        }
        refused("22: behind", desk, desk.chosen(0, 3), 1);
        refused("22: below 0", desk, desk.chosen(0, -1), 1);
        refused("22: of none", desk, desk.chosen(1, 0), 1);
        // ab' and ad can both be another's place; the least row is told.
        BurstDesk ties = desk("state 0;state 1;state 0;begin 0 d /;arc 0 1 a+ / q+;arc 1 2 b+ d- /");
        due("22: the least row", Texts.formula(ties, 3), "ab'+ad");
        BurstDesk lacking = desk(LACKING);
        refused("22: no cover", lacking, lacking.chosen(0, 9), 5);
        BurstDesk six = desk(SIX);
        refused("22: more than five", six, six.chosen(2, 0), 5);
        guarded("22", (d, f) -> d.chosen(f, 99));
    }

    private static void formulas() {
        spelled(desk(BOTH), 0, "ab+as+bs", 6);
        spelled(desk(BOTH), 1, "0", 0);
        spelled(desk(ALONE), 0, "1", 0);
        spelled(desk(ALONE), 4, "1", 0);
        spelled(desk(FALL), 0, "a'+b'", 2);
        spelled(desk("state 3;state 2;begin 0 /;arc 1 0 a- b- c- d- / r-;arc 0 1 a+ b+ c+ d+ / r+"), 2,
                "abcd+as'+bs'+cs'+ds'", 12);
        BurstDesk desk = desk(BOTH);
        refused("25: below 0", desk, desk.sign(0, -1), 1);
        for (int f = 0; f < 3; f += 2) {
            BurstDesk none = desk(f == 0 ? LACKING : SIX);
            refused("23: no fewest", none, none.literals(f), 5);
            refused("24: no fewest", none, none.formula(f), 5);
            refused("25: no fewest", none, none.sign(f, 0), 5);
        }
        guarded("23", (d, f) -> d.literals(f));
        guarded("24", (d, f) -> d.formula(f));
        guarded("25", (d, f) -> d.sign(f, 999));
    }

    private static void spelled(BurstDesk desk, int f, String formula, int literals) {
        due("25: signs", Texts.formula(desk, f), formula);
        told("24: " + formula, desk, desk.formula(f), formula.length());
        told("23: " + formula, desk, desk.literals(f), literals);
        refused("25: behind " + formula, desk, desk.sign(f, formula.length()), 1);
    }

    // ---- 26 to 31

    private static void harms() {
        BurstDesk desk = desk(FALL);
        told("26: nothing holds", desk, desk.harm(0, 0), 2);
        desk.add(0, Texts.cube("0-----"));
        told("26: one is not held", desk, desk.harm(0, 0), 2);
        desk.add(1, Texts.cube("-0----"));
        told("26: another function's gate", desk, desk.harm(0, 0), 2);
        told("26: q has to be 0", desk, desk.harm(1, 0), 1);
        desk.add(0, Texts.cube("-0----"));
        told("26: all are held", desk, desk.harm(0, 0), 0);
        desk.add(0, Texts.cube("10----"));
        told("26: not from its beginning", desk, desk.harm(0, 0), 4);
        desk.add(0, Texts.cube("1-----"));
        told("26: where it has to be 0", desk, desk.harm(0, 0), 5);
        BurstDesk far = desk(FALL + ";gate p c;gate p a';gate p b'");
        told("26: a gate far from the burst", far, far.harm(0, 0), 0);
        BurstDesk first = desk(FALL + ";gate p a b");
        told("26: the first gate", first, first.harm(0, 0), 7);
        refused("26: no such arc", desk, desk.harm(0, 1), 1);
        refused("26: arc below 0", desk, desk.harm(0, -1), 1);
        guarded("26", (d, f) -> d.harm(f, 0) == -1 && d.size(1) == 0 && d.size(0) == 2 ? refusedArc(d, f) : d.harm(f, 0));
        BurstDesk bad = desk("state 0;state 0;state 0;begin 0 /;arc 0 1 a+ b+ / p+;arc 1 2 b- /");
        refused("26: bad", bad, bad.harm(0, 0), 5);
        refused("26: bad, no such arc", bad, bad.harm(0, 2), 1);
        // A cube that two arcs require is asked for by each of them.
        BurstDesk twice = desk("state 0;state 0;state 0;begin 0 /;arc 0 1 a+ / p+;arc 1 2 b+ /;arc 2 1 b- /");
        twice.add(0, Texts.cube("1-0000"));
        twice.add(0, Texts.cube("110000"));
        told("26: held by the burst's gate", twice, twice.harm(0, 2), 0);
        twice.undo();
        twice.undo();
        twice.add(0, Texts.cube("100000"));
        told("26: the burst isn't held", twice, twice.harm(0, 2), 2);
        told("26: the first turn is", twice, twice.harm(0, 0), 0);
    }

    /** The machine of guarded() that is BAD has no arc: 1 ahead of 5; with one the same call is refused by 5. */
    private static int refusedArc(BurstDesk desk, int f) {
        due("26: no arc", desk.trouble(), 1);
        Texts.machine(desk, "state 0;state 1;begin 0 a /;arc 0 1 a+ /");
        return desk.harm(f, 0);
    }

    private static void glitches() {
        BurstDesk desk = desk(BOTH);
        told("27: p", desk, desk.glitch(0), 0);
        told("27: q", desk, desk.glitch(1), -2);
        desk.add(0, Texts.cube("11----"));
        told("27: the second arc", desk, desk.glitch(0), 1);
        desk.add(0, Texts.cube("1---1-"));
        desk.add(0, Texts.cube("-1--1-"));
        told("27: none", desk, desk.glitch(0), -2);
        guarded("27", (d, f) -> d.glitch(f));
    }

    private static void runs() {
        BurstDesk desk = desk(BOTH + ";gate p a b';gate q c;gate p c");
        told("28: a gate is 1", desk, desk.run(0, Texts.cube("100000"), true), 1);
        told("28: no gate can be", desk, desk.run(0, Texts.cube("0-0---"), true), 0);
        told("28: nobody knows", desk, desk.run(0, Texts.cube("1-0---"), true), 2);
        told("28: 1 beside unknown", desk, desk.run(0, Texts.cube("1-1---"), true), 1);
        told("28: another function's", desk, desk.run(1, Texts.cube("10----"), true), 2);
        told("28: no gates", desk, desk.run(2, 728, true), 0);
        told("28: fewest, 1", desk, desk.run(0, Texts.cube("11----"), false), 1);
        told("28: fewest, 0", desk, desk.run(0, Texts.cube("0---0-"), false), 0);
        told("28: fewest, unknown", desk, desk.run(0, Texts.cube("1-----"), false), 2);
        // Each product is unknown, though their sum is 1 whatever a is: the letters are looked at one by one.
        BurstDesk split = desk("state 0;begin 0 /;gate p a;gate p a'");
        told("28: products one by one", split, split.run(0, 728, true), 2);
        BurstDesk all = desk("state 0;begin 0 /;gate p");
        told("28: an empty product", all, all.run(0, 728, true), 1);
        refused("28: a cube", desk, desk.run(0, 729, false), 2);
        refused("28: a cube, gates", desk, desk.run(0, -1, true), 2);
        BurstDesk lacking = desk(LACKING);
        refused("28: no fewest", lacking, lacking.run(0, 729, false), 5);
        told("28: gates ask for no fewest", lacking, lacking.run(0, 0, true), 0);
        guarded("28", (d, f) -> d.run(f, 729, true));
        guarded("28, fewest", (d, f) -> d.run(f, 729, false));
    }

    private static void burstRuns() {
        BurstDesk desk = desk(BOTH + ";gate p s;gate q s'");
        told("29: unknown", desk, desk.runBurst(0, 0, false), 2);
        told("29: 0 all along", desk, desk.runBurst(1, 0, false), 0);
        told("29: gate, 0", desk, desk.runBurst(0, 0, true), 0);
        told("29: gate, 1", desk, desk.runBurst(0, 1, true), 1);
        told("29: gate of q", desk, desk.runBurst(1, 0, true), 1);
        refused("29: no such arc", desk, desk.runBurst(0, 2, true), 1);
        refused("29: arc below 0", desk, desk.runBurst(0, -1, false), 1);
        refused("29: function", desk, desk.runBurst(5, 0, true), 1);
        BurstDesk lacking = desk(LACKING);
        refused("29: no fewest", lacking, lacking.runBurst(0, 0, false), 5);
        told("29: gates ask for none", lacking, lacking.runBurst(0, 0, true), 0);
        refused("29: arc ahead of fewest", lacking, lacking.runBurst(0, 3, false), 1);
        BurstDesk bad = desk("state 0;state 0;state 0;begin 0 /;arc 0 1 a+ b+ / p+;arc 1 2 b- /");
        refused("29: bad", bad, bad.runBurst(0, 0, true), 5);
        refused("29: bad, fewest", bad, bad.runBurst(0, 0, false), 5);
        BurstDesk empty = new BurstDesk();
        refused("29: no machine", empty, empty.runBurst(0, 0, true), 1);
    }

    private static void feedback() {
        BurstDesk desk = desk(WAYS);
        told("30: a code changes", desk, desk.settles(0), 1);
        told("31: its code", desk, desk.settled(0), 1);
        told("31: the other way", desk, desk.settled(1), 2);
        told("31: back", desk, desk.settled(2), 0);
        BurstDesk fall = desk(FALL);
        told("30: no code changes", fall, fall.settles(0), 0);
        told("31: the same", fall, fall.settled(0), 0);
        refused("30: no such arc", desk, desk.settles(3), 1);
        refused("30: below 0", desk, desk.settles(-1), 1);
        refused("31: no such arc", desk, desk.settled(3), 1);
        refused("31: below 0", desk, desk.settled(-1), 1);
        BurstDesk none = desk("state 3;state 0;state 3;state 0;begin 0 c d / r;"
                + "arc 0 3 c- d- / q+;arc 1 2 a- c- / p-;arc 0 1 a+ / p+");
        refused("30: no fewest", none, none.settles(0), 5);
        refused("31: no fewest", none, none.settled(0), 5);
        refused("30: arc ahead of it", none, none.settles(3), 1);
        BurstDesk noT = desk("state 0;state 2;state 2;state 0;begin 0 /;arc 1 3 c+ d+ /;arc 0 2 c+ /;arc 2 1 c- /");
        due("30: s has", noT.fewest(3), 0);
        due("30: t hasn't", noT.fewest(4), -2);
        refused("30: t has none", noT, noT.settles(0), 5);
        refused("31: t has none", noT, noT.settled(0), 5);
        BurstDesk noS = desk("state 2;state 3;state 3;state 0;begin 0 d /;arc 1 3 d- /;arc 2 3 a+ d- /;arc 1 2 a- /;"
                + "arc 0 1 a+ / q+");
        due("30: s hasn't", noS.fewest(3), -2);
        due("30: t has", noS.fewest(4) >= 0, true);
        refused("30: s has none", noS, noS.settles(0), 5);
        refused("31: s has none", noS, noS.settled(0), 5);
        BurstDesk lacking = desk(LACKING);
        told("30: p's fewest isn't asked for", lacking, lacking.settles(0), 1);
        BurstDesk bad = desk("state 0;state 1;begin 0 a /;arc 0 1 a+ /");
        refused("30: bad", bad, bad.settles(0), 5);
        refused("31: bad", bad, bad.settled(0), 5);
        refused("30: bad, no such arc", bad, bad.settles(1), 1);
        BurstDesk empty = new BurstDesk();
        refused("31: no machine", empty, empty.settled(0), 1);
    }

    // ---- 32 to 36

    private static void pushes() {
        BurstDesk desk = desk(WAYS);
        told("32: b", desk, desk.push(1), 0);
        refused("32: b again", desk, desk.push(1), 5);
        refused("32: d is in no burst", desk, desk.push(3), 5);
        told("32: a: an arc", desk, desk.push(0), 1);
        refused("32: c is in none from there", desk, desk.push(2), 5);
        told("32: b", desk, desk.push(1), 1);
        told("32: a: back", desk, desk.push(0), 0);
        told("32: a", desk, desk.push(0), 0);
        refused("32: not of one arc", desk, desk.push(2), 5);
        told("32: still a", desk, desk.walk(3), 1);
        refused("32: a number", desk, desk.push(4), 2);
        refused("32: below 0", desk, desk.push(-1), 2);
        BurstDesk bad = desk("state 0;state 1;begin 0 /");
        refused("32: bad", bad, bad.push(9), 5);
        BurstDesk empty = new BurstDesk();
        refused("32: no machine", empty, empty.push(9), 1);
    }

    private static void walks() {
        BurstDesk desk = desk(WAYS);
        int[][] rows = {{-1, 0, 0, 2, 0}, {2, 0, 4, 2, 4}, {1, 2, 6, 0, 0}};
        for (int[] row : rows) {
            if (row[0] >= 0) {
                desk.push(row[0]);
            }
            for (int what = 0; what < 4; what++) {
                told("33: what " + what, desk, desk.walk(what), row[what + 1]);
            }
        }
        BurstDesk back = desk(BOTH);
        back.push(0);
        back.push(1);
        back.push(1);
        told("33: an input that fell", back, back.walk(1), 1);
        told("33: it is changed", back, back.walk(3), 2);
        told("33: outputs stay", back, back.walk(2), 1);
        refused("33: another what", desk, desk.walk(4), 1);
        refused("33: below 0", desk, desk.walk(-1), 1);
        restarts("recode", d -> d.recode(0, 0));
        restarts("strike", d -> d.strike(2));
        restarts("add", d -> d.add(0, 728));
        restarts("undo", d -> d.undo());
        restarts("machine", d -> Texts.machine(d, WAYS));
        stays("recode", d -> d.recode(0, 4));
        stays("strike", d -> d.strike(9));
        stays("add", d -> d.add(0, 729));
        stays("a text with a fault", d -> Texts.machine(d, "state"));
        stays("machine by 2", d -> d.machine(1));
        BurstDesk bad = desk("state 0;state 1;begin 0 /");
        refused("33: bad", bad, bad.walk(0), 5);
        refused("33: bad, another what", bad, bad.walk(4), 1);
        BurstDesk empty = new BurstDesk();
        refused("33: no machine", empty, empty.walk(0), 1);
    }

    private interface Deed {
        void on(BurstDesk desk);
    }

    private static BurstDesk walked() {
        BurstDesk desk = desk(WAYS);
        desk.add(1, 0);
        desk.push(1);
        desk.push(0);
        desk.push(0);
        due("33: on the way", desk.walk(3), 1);
        return desk;
    }

    private static void restarts(String what, Deed deed) {
        BurstDesk desk = walked();
        deed.on(desk);
        told("33: the state behind " + what, desk, desk.walk(0), 0);
        told("33: changed behind " + what, desk, desk.walk(3), 0);
    }

    private static void stays(String what, Deed deed) {
        BurstDesk desk = walked();
        deed.on(desk);
        told("33: the state behind " + what + ", refused", desk, desk.walk(0), 1);
        told("33: changed behind " + what + ", refused", desk, desk.walk(3), 1);
    }

    private static void showings() {
        BurstDesk desk = desk(BOTH);
        told("34: at first", desk, desk.shown(), 0);
        desk.push(0);
        told("34: on the way", desk, desk.shown(), 0);
        desk.push(1);
        told("34: p and s", desk, desk.shown(), 9);
        desk.push(1);
        told("34: on the way back", desk, desk.shown(), 9);
        desk.push(0);
        told("34: back", desk, desk.shown(), 0);
        BurstDesk alone = desk(ALONE);
        told("34: p, s, t", alone, alone.shown(), 25);
        BurstDesk lacking = desk(LACKING);
        told("34: no fewest", lacking, lacking.shown(), -2);
        BurstDesk bad = desk("state 0;state 1;begin 0 /");
        refused("34: bad", bad, bad.shown(), 5);
        BurstDesk empty = new BurstDesk();
        refused("34: no machine", empty, empty.shown(), 1);
    }

    /** Two states of one input point: unlike outputs want unlike codes. */
    private static final String TWIN = "state 0;state 0;state 0;begin 0 /;arc 0 1 a+ / p+;arc 1 2 a- /";
    private static final String NO_CODES = "state 1;state 3;state 0;state 3;state 0;begin 0 /;arc 2 3 d+ / p+;"
            + "arc 0 1 d+ / p+;arc 3 4 d- /;arc 4 1 d+ /;arc 1 2 d- / p-";

    private static void codeCounts() {
        BurstDesk alone = desk(ALONE);
        for (int n = 1; n <= 4; n++) {
            told("35: a state alone", alone, alone.codings(n), n);
        }
        refused("35: 0", alone, alone.codings(0), 2);
        refused("35: 5", alone, alone.codings(5), 2);
        BurstDesk both = desk(BOTH);
        told("35: one code for both", both, both.codings(1), 0);
        told("35: two codes", both, both.codings(2), 2);
        told("35: four codes", both, both.codings(4), 12);
        BurstDesk twin = desk(TWIN);
        due("35: bad by 5", twin.bad(), 5);
        told("35: one code", twin, twin.codings(1), 0);
        BurstDesk outputs = desk("state 0;state 0;state 0;begin 0 /;arc 0 1 a+ b+ / p+;arc 1 2 b- /");
        // Only p clashes where all codes are one; with two, the last may not be on the first one's way.
        told("35: outputs alone clash", outputs, outputs.codings(1), 0);
        BurstDesk none = desk(NO_CODES);
        told("35: none at all", none, none.codings(4), 0);
        BurstDesk bad = desk("state 0;state 1;begin 0 /");
        refused("35: bad", bad, bad.codings(9), 5);
        BurstDesk four = desk("state 0;state 1;state 2;begin 0 /;arc 0 1 a+ b+ /;arc 0 2 b+ /");
        refused("35: bad by 4", four, four.codings(1), 5);
        BurstDesk empty = new BurstDesk();
        refused("35: no machine", empty, empty.codings(9), 1);
    }

    private static void firstCodes() {
        BurstDesk both = desk(BOTH);
        told("36: first", both, both.coding(2, 0), 0);
        told("36: second", both, both.coding(2, 1), 1);
        refused("36: there is none", both, both.coding(1, 0), 1);
        refused("36: a number", both, both.coding(5, 0), 2);
        refused("36: a number, 0", both, both.coding(0, 0), 2);
        refused("36: a state", both, both.coding(5, 2), 1);
        refused("36: below 0", both, both.coding(2, -1), 1);
        BurstDesk none = desk(NO_CODES);
        refused("36: none at all", none, none.coding(4, 0), 1);
        BurstDesk bad = desk("state 0;state 1;begin 0 /");
        refused("36: bad", bad, bad.coding(9, 0), 5);
        refused("36: bad, a state", bad, bad.coding(9, 2), 1);
        BurstDesk empty = new BurstDesk();
        refused("36: no machine", empty, empty.coding(2, 0), 1);
        BurstDesk fall = desk(FALL);
        told("36: all alike", fall, fall.coding(4, 1), 0);
        told("35: of one", fall, fall.codings(1), 1);
        // States 0, 3, 1 want three codes; the way from 3 to 1 may not meet that of 0, which can't be 0 then.
        BurstDesk ring = desk("state 2;state 2;state 3;state 3;arc 1 2 a+ /;arc 0 3 a+ /;arc 3 1 a- / p+;begin 0 /");
        told("35: two ways of three codes", ring, ring.codings(3), 2);
        int[] first = {1, 2, 2, 0};
        for (int i = 0; i < 4; i++) {
            told("36: of three codes, " + i, ring, ring.coding(3, i), first[i]);
        }
        told("35: no way of two", ring, ring.codings(2), 0);
        // An arc struck out frees the codes.
        both.strike(1);
        told("35: without the way back", both, both.codings(1), 1);
        both.undo();
        told("35: with it again", both, both.codings(1), 0);
    }

    // ---- 37 to 43

    private static void recodes() {
        BurstDesk desk = desk(BOTH);
        due("37: p ahead of it", Texts.formula(desk, 0), "ab+as+bs");
        due("37: t ahead of it", Texts.formula(desk, 4), "0");
        told("37: the one it had", desk, desk.recode(1, 2), 1);
        told("37: its code", desk, desk.state(1, 0), 2);
        due("37: another formula", Texts.formula(desk, 0), "ab+at+bt");
        due("37: another one of t", Texts.formula(desk, 4), "ab+at+bt");
        told("37: the same", desk, desk.recode(1, 2), 2);
        due("37: it counts", desk.size(3), 2);
        told("37: like the other", desk, desk.recode(1, 0), 2);
        told("37: then it is bad", desk, desk.bad(), 6);
        told("37: though it is", desk, desk.recode(1, 3), 0);
        refused("37: no such", desk, desk.recode(2, 9), 1);
        refused("37: below 0", desk, desk.recode(-1, 0), 1);
        refused("37: a code", desk, desk.recode(0, 4), 2);
        refused("37: code below 0", desk, desk.recode(0, -1), 2);
        due("37: refused ones don't count", desk.size(3), 4);
        BurstDesk empty = new BurstDesk();
        refused("37: no machine", empty, empty.recode(0, 0), 1);
    }

    private static void strikes() {
        BurstDesk desk = desk(WAYS);
        told("38: left", desk, desk.strike(0), 2);
        told("38: the one behind", desk, desk.arc(0, 1), 2);
        told("38: the last", desk, desk.arc(1, 0), 1);
        refused("38: one less", desk, desk.arc(2, 0), 1);
        told("38: a state without values", desk, desk.bad(), 3);
        told("38: its place", desk, desk.badAt(), 1);
        refused("38: no such", desk, desk.strike(2), 1);
        refused("38: below 0", desk, desk.strike(-1), 1);
        told("38: on", desk, desk.strike(1), 1);
        told("38: none left", desk, desk.strike(0), 0);
        refused("38: none", desk, desk.strike(0), 1);
        for (int i = 0; i < 3; i++) {
            due("40: back " + i, desk.undo(), true);
        }
        int[][] ends = {{0, 1}, {0, 2}, {1, 0}};
        int[] rises = {3, 6, 0};
        for (int i = 0; i < 3; i++) {
            told("40: from " + i, desk, desk.arc(i, 0), ends[i][0]);
            told("40: to " + i, desk, desk.arc(i, 1), ends[i][1]);
            told("40: inputs " + i, desk, desk.arc(i, 2), rises[i]);
        }
        told("40: lawful again", desk, desk.bad(), 0);
        BurstDesk empty = new BurstDesk();
        refused("38: no machine", empty, empty.strike(0), 1);
    }

    private static void adds() {
        BurstDesk desk = desk(BOTH);
        for (int i = 1; i <= 16; i++) {
            told("39: gate " + i, desk, desk.add(i % 5, i), i);
        }
        refused("39: no room", desk, desk.add(0, 0), 3);
        refused("39: a cube ahead of it", desk, desk.add(0, 729), 2);
        refused("39: below 0", desk, desk.add(0, -1), 2);
        refused("39: a function ahead of it", desk, desk.add(5, 729), 1);
        refused("39: function below 0", desk, desk.add(-1, 0), 1);
        told("39: the last one's function", desk, desk.gate(15, 0), 1);
        told("39: the last one's cube", desk, desk.gate(15, 1), 16);
        BurstDesk bad = desk("state 0;state 1;begin 0 /");
        told("39: though it is bad", bad, bad.add(0, 728), 1);
        BurstDesk empty = new BurstDesk();
        refused("39: no machine", empty, empty.add(0, 729), 1);
    }

    private static void undos() {
        BurstDesk desk = desk(BOTH);
        due("40: nothing yet", desk.undo(), false);
        due("40: trouble", desk.trouble(), 1);
        for (int i = 0; i < 13; i++) {
            desk.add(0, i);
        }
        due("40: twelve are kept", desk.size(3), 12);
        for (int i = 0; i < 12; i++) {
            due("40: one less", desk.undo(), true);
            due("40: trouble", desk.trouble(), 0);
        }
        due("40: not the oldest", desk.undo(), false);
        due("40: its gate stays", desk.size(2), 1);
        told("40: that one", desk, desk.gate(0, 1), 0);
        desk.recode(0, 2);
        desk.strike(0);
        desk.add(4, 700);
        desk.recode(0, 3);
        desk.undo();
        told("40: the code ahead of the latest", desk, desk.state(0, 0), 2);
        desk.undo();
        told("40: the gate is gone", desk, desk.size(2), 1);
        desk.undo();
        told("40: the arc is back", desk, desk.arc(0, 2), 3);
        told("40: the other one, too", desk, desk.arc(1, 3), 3);
        desk.undo();
        told("40: the first code", desk, desk.state(0, 0), 0);
        due("40: the formula", Texts.formula(desk, 0), "ab+as+bs");
        due("40: none left", desk.undo(), false);
        BurstDesk mixed = desk(WAYS);
        mixed.strike(1);
        mixed.strike(0);
        for (int i = 0; i < 11; i++) {
            mixed.recode(i % 3, i % 4);
        }
        for (int i = 0; i < 11; i++) {
            due("40: a code back", mixed.undo(), true);
        }
        for (int i = 0; i < 3; i++) {
            told("40: all codes as they were", mixed, mixed.state(i, 0), i);
        }
        due("40: the second arc back", mixed.undo(), true);
        for (int i = 0; i < 3; i++) {
            told("40: by it no code changes", mixed, mixed.state(i, 0), i);
        }
        told("40: it is the first", mixed, mixed.arc(0, 2), 3);
        told("40: the way back behind it", mixed, mixed.arc(1, 3), 3);
        due("40: the first that went stays away", mixed.undo(), false);
        due("40: two arcs", mixed.size(1), 2);
        BurstDesk empty = new BurstDesk();
        due("40: no machine", empty.undo(), false);
        due("40: no machine, trouble", empty.trouble(), 1);
    }

    private static void lasts() {
        BurstDesk desk = desk(WAYS);
        due("41: the first", desk.last(0), 2);
        due("41: state 0", desk(ALONE).last(0), 0);
        throwsNone(desk, 1);
        throwsNone(desk, -1);
        throwsNone(desk, Integer.MIN_VALUE);
        throwsNone(new BurstDesk(), 0);
        desk.strike(2);
        due("41: by numbers", desk.last(0), 1);
        due("41: the next", desk.last(1), 2);
        throwsNone(desk(BOTH), 0);
        desk.push(9);
        desk.last(0);
        due("41: no trouble is told", desk.trouble(), 2);
    }

    private static void throwsNone(BurstDesk desk, int i) {
        String got = "nothing";
        try {
            got = "" + desk.last(i);
        } catch (NoSuchElementException e) {
            got = "thrown";
        }
        due("41: last(" + i + ")", got, "thrown");
    }

    private static void sizes() {
        BurstDesk desk = desk("state 0;state 1;begin 1 a b / p;arc 1 0 a- b- / p-;gate p a");
        Texts.feed(desk, "state 0");
        desk.recode(0, 0);
        int[] due = {2, 1, 1, 1, 20, 1};
        for (int what = 0; what < 6; what++) {
            due("42: size " + what, desk.size(what), due[what]);
        }
        due("42: 6", desk.size(6), -1);
        due("42: -1", desk.size(-1), -1);
        desk.recode(9, 0);
        desk.size(0);
        desk.size(99);
        due("42: no trouble is told", desk.trouble(), 1);
    }

    private static void troubles() {
        BurstDesk desk = desk(BOTH);
        due("43: 0", desk.trouble(), 0);
        desk.state(9, 9);
        due("43: 1", desk.trouble(), 1);
        desk.at(0, 99);
        due("43: 2", desk.trouble(), 2);
        desk.fault();
        desk.where();
        desk.trouble();
        due("43: stays by calls of which no number is told", desk.trouble(), 2);
        for (int i = 0; i < 17; i++) {
            desk.add(0, 0);
        }
        due("43: 3", desk.trouble(), 3);
        Texts.machine(desk, "x");
        due("43: 4", desk.trouble(), 4);
        desk.push(3);
        due("43: 5", desk.trouble(), 5);
        desk.walk(0);
        due("43: 0 again", desk.trouble(), 0);
    }
}
