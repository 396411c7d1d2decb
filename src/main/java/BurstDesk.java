import java.util.NoSuchElementException;

/**
 * A desk for machines without a clock that take bursts of inputs.
 *
 * <p>Points are the numbers 0 .. 63, so that a set of them is one long: bit i says whether point i is in it.
 * A cube within another, two cubes that meet, a run with unknown letters are then single operations on longs.
 */
public final class BurstDesk {
    public static final int NONE = -1;

    private static final int NOTHING = -2;

    private static final int FINE = 0;
    private static final int NO_SUCH = 1;
    private static final int NUMBER = 2;
    private static final int NO_ROOM = 3;
    private static final int FAULTY = 4;
    private static final int NOT_SO = 5;

    private static final int INPUTS = 4;
    private static final int OUTPUTS = 3;
    private static final int LETTERS = 6;
    private static final int FUNCTIONS = 5;
    private static final int FUNCTION_S = 3;
    private static final int FUNCTION_T = 4;
    private static final int POINTS = 64;
    private static final int CUBES = 729;
    private static final int CODES = 4;
    private static final int STATES = 6;
    private static final int ARCS = 8;
    private static final int GATES = 16;
    private static final int ROUNDS = 8;

    private final Machine machine = new Machine();
    private final Reader reader = new Reader();
    private final Acts acts = new Acts(machine);
    private final Study study = new Study(machine);
    private final Cubes cubes = new Cubes();
    private final Sheet[] sheets = new Sheet[FUNCTIONS];
    private final Coder coder = new Coder(study);
    private final Walk walker = new Walk(study);
    private int why;
    private int latestFault;

    public BurstDesk() {
        Finder finder = new Finder();
        for (int f = 0; f < FUNCTIONS; f++) {
            sheets[f] = new Sheet(f, study, cubes, finder);
        }
    }

    // ---- the machine

    public int feed(int a, int b, int c, int d, int e) {
        if (!reader.hasRoom()) {
            return NONE;
        }
        reader.put(a);
        reader.put(b);
        reader.put(c);
        reader.put(d);
        reader.put(e);
        return reader.used;
    }

    public int machine(int n) {
        if (n < 0 || n > reader.used) {
            return refuse(NUMBER);
        }
        boolean lawful = reader.reads(n);
        reader.used = 0;
        latestFault = reader.fault;
        if (!lawful) {
            return refuse(FAULTY);
        }
        machine.takeFrom(reader.draft);
        acts.kept = 0;
        studyAnew();
        return told(machine.arcs);
    }

    public int fault() {
        return latestFault;
    }

    public int where() {
        return why == FAULTY ? reader.place : NONE;
    }

    public int bad() {
        return machine.told ? told(study.evil) : refuse(NO_SUCH);
    }

    public int badAt() {
        return machine.told ? told(study.evilPlace) : refuse(NO_SUCH);
    }

    // ---- states, arcs, gates

    public int state(int i, int what) {
        if (i < 0 || i >= machine.states || what < 0 || what > 2) {
            return refuse(NO_SUCH);
        }
        if (what == 0) {
            return told(pick(machine.codes, i));
        }
        if (!study.hasValues(i)) {
            return told(NOTHING);
        }
        return told(pick(what == 1 ? study.inputs : study.outputs, i));
    }

    public int arc(int i, int what) {
        if (!hasArc(i) || what < 0 || what > Machine.ARC_PARTS) {
            return refuse(NO_SUCH);
        }
        if (what == Machine.ARC_PARTS) {
            return told(study.wasGoneAlong(i) ? 1 : 0);
        }
        return told(machine.part(i, what));
    }

    public int gate(int i, int what) {
        if (i < 0 || i >= machine.gates || what < 0 || what > 1) {
            return refuse(NO_SUCH);
        }
        return told(pick(what == 0 ? machine.gateFunctions : machine.gateCubes, i));
    }

    // ---- functions

    public int at(int f, int point) {
        int trouble = functionTrouble(f);
        if (trouble == FINE && (point < 0 || point >= POINTS)) {
            trouble = NUMBER;
        }
        if (trouble != FINE) {
            return refuse(trouble);
        }
        if ((study.demands.zerosOf(f) >>> point & 1L) != 0L) {
            return told(0);
        }
        return told((study.demands.onesOf(f) >>> point & 1L) != 0L ? 1 : 2);
    }

    public int points(int f, int v) {
        int trouble = functionTrouble(f);
        if (trouble == FINE && (v < 0 || v > 2)) {
            trouble = NUMBER;
        }
        if (trouble != FINE) {
            return refuse(trouble);
        }
        int zeros = Long.bitCount(study.demands.zerosOf(f));
        int ones = Long.bitCount(study.demands.onesOf(f));
        if (v == 2) {
            return told(POINTS - zeros - ones);
        }
        return told(v == 1 ? ones : zeros);
    }

    public int required(int f) {
        int trouble = functionTrouble(f);
        return trouble == FINE ? told(sheetOf(f).requiredCount) : refuse(trouble);
    }

    public int requiredCube(int f, int i) {
        int trouble = functionTrouble(f);
        if (trouble == FINE && (i < 0 || i >= sheetOf(f).requiredCount)) {
            trouble = NO_SUCH;
        }
        return trouble == FINE ? told(pick(sheetOf(f).requiredCubes, i)) : refuse(trouble);
    }

    public int falls(int f) {
        int trouble = functionTrouble(f);
        return trouble == FINE ? told(sheetOf(f).fallCount) : refuse(trouble);
    }

    public int safe(int f, int cube) {
        int trouble = functionTrouble(f);
        if (trouble == FINE && !isCube(cube)) {
            trouble = NUMBER;
        }
        if (trouble != FINE) {
            return refuse(trouble);
        }
        return told(sheetOf(f).isSafe(cubes.pointsOf(cube)) ? 1 : 0);
    }

    public int primes(int f) {
        int trouble = functionTrouble(f);
        return trouble == FINE ? told(sheetOf(f).primeCount) : refuse(trouble);
    }

    public int prime(int f, int i) {
        int trouble = functionTrouble(f);
        if (trouble == FINE && (i < 0 || i >= sheetOf(f).primeCount)) {
            trouble = NO_SUCH;
        }
        return trouble == FINE ? told(pick(sheetOf(f).primeCubes, i)) : refuse(trouble);
    }

    public int needed(int f) {
        int trouble = functionTrouble(f);
        return trouble == FINE ? told(sheetOf(f).neededCount) : refuse(trouble);
    }

    public int lacking(int f) {
        int trouble = functionTrouble(f);
        return trouble == FINE ? told(sheetOf(f).firstLacking) : refuse(trouble);
    }

    public int fewest(int f) {
        int trouble = functionTrouble(f);
        return trouble == FINE ? told(sheetOf(f).fewestCount) : refuse(trouble);
    }

    public int chosen(int f, int i) {
        int trouble = fewestTrouble(f);
        if (trouble == FINE && (i < 0 || i >= sheetOf(f).fewestCount)) {
            trouble = NO_SUCH;
        }
        return trouble == FINE ? told(pick(sheetOf(f).chosenPrimes, i)) : refuse(trouble);
    }

    public int literals(int f) {
        int trouble = fewestTrouble(f);
        return trouble == FINE ? told(sheetOf(f).literalCount) : refuse(trouble);
    }

    public int formula(int f) {
        int trouble = fewestTrouble(f);
        return trouble == FINE ? told(sheetOf(f).signCount) : refuse(trouble);
    }

    public int sign(int f, int i) {
        int trouble = fewestTrouble(f);
        if (trouble == FINE && (i < 0 || i >= sheetOf(f).signCount)) {
            trouble = NO_SUCH;
        }
        return trouble == FINE ? told(pick(sheetOf(f).signs, i)) : refuse(trouble);
    }

    // ---- gates, runs

    public int harm(int f, int arc) {
        if (!isFunction(f) || !hasArc(arc)) {
            return refuse(NO_SUCH);
        }
        return study.evil == 0 ? told(harmBy(f, arc)) : refuse(NOT_SO);
    }

    public int glitch(int f) {
        int trouble = functionTrouble(f);
        if (trouble != FINE) {
            return refuse(trouble);
        }
        for (int arc = 0; arc < machine.arcs; arc++) {
            if (harmBy(f, arc) != 0) {
                return told(arc);
            }
        }
        return told(NOTHING);
    }

    public int run(int f, int cube, boolean gates) {
        int trouble = gates ? functionTrouble(f) : fewestTrouble(f);
        if (trouble == FINE && !isCube(cube)) {
            trouble = NUMBER;
        }
        return trouble == FINE ? told(runWith(f, cubes.pointsOf(cube), gates)) : refuse(trouble);
    }

    public int runBurst(int f, int arc, boolean gates) {
        if (!isFunction(f) || !hasArc(arc)) {
            return refuse(NO_SUCH);
        }
        int trouble = gates ? functionTrouble(f) : fewestTrouble(f);
        return trouble == FINE ? told(runWith(f, burstOf(arc), gates)) : refuse(trouble);
    }

    public int settles(int arc) {
        int trouble = feedbackTrouble(arc);
        return trouble == FINE ? told(settle(arc, true)) : refuse(trouble);
    }

    public int settled(int arc) {
        int trouble = feedbackTrouble(arc);
        return trouble == FINE ? told(settle(arc, false)) : refuse(trouble);
    }

    // ---- the walk

    public int push(int input) {
        int trouble = machineTrouble();
        if (trouble == FINE && (input < 0 || input >= INPUTS)) {
            trouble = NUMBER;
        }
        if (trouble == FINE && !walker.changes(input)) {
            trouble = NOT_SO;
        }
        return trouble == FINE ? told(walker.place) : refuse(trouble);
    }

    public int walk(int what) {
        if (!machine.told || what < 0 || what > 3) {
            return refuse(NO_SUCH);
        }
        if (study.evil != 0) {
            return refuse(NOT_SO);
        }
        switch (what) {
            case 0:
                return told(walker.place);
            case 1:
                return told(walker.inputsNow());
            case 2:
                return told(pick(study.outputs, walker.place));
            default:
                return told(walker.changed);
        }
    }

    public int shown() {
        int trouble = machineTrouble();
        if (trouble != FINE) {
            return refuse(trouble);
        }
        int point = study.pointIn(machine.codes, walker.place) ^ walker.changed;
        int bits = 0;
        for (int f = 0; f < FUNCTIONS; f++) {
            Sheet sheet = sheetOf(f);
            if (!sheet.hasFewest()) {
                return told(NOTHING);
            }
            bits |= sheet.valueAt(point) << f;
        }
        return told(bits);
    }

    // ---- codes

    public int codings(int n) {
        int trouble = codingTrouble(n);
        if (trouble != FINE) {
            return refuse(trouble);
        }
        coder.search(n);
        return told(coder.found);
    }

    public int coding(int n, int state) {
        if (state < 0 || state >= machine.states) {
            return refuse(NO_SUCH);
        }
        int trouble = codingTrouble(n);
        if (trouble != FINE) {
            return refuse(trouble);
        }
        coder.search(n);
        return coder.found > 0 ? told(pick(coder.first, state)) : refuse(NO_SUCH);
    }

    // ---- acts

    public int recode(int state, int code) {
        if (state < 0 || state >= machine.states) {
            return refuse(NO_SUCH);
        }
        if (code < 0 || code >= CODES) {
            return refuse(NUMBER);
        }
        int before = pick(machine.codes, state);
        acts.changeCode(state, code);
        studyAnew();
        return told(before);
    }

    public int strike(int arc) {
        if (!hasArc(arc)) {
            return refuse(NO_SUCH);
        }
        acts.strikeOut(arc);
        studyAnew();
        return told(machine.arcs);
    }

    public int add(int f, int cube) {
        if (!machine.told || !isFunction(f)) {
            return refuse(NO_SUCH);
        }
        if (!isCube(cube)) {
            return refuse(NUMBER);
        }
        if (machine.gates >= GATES) {
            return refuse(NO_ROOM);
        }
        acts.addGate(f, cube);
        walker.restart();
        return told(machine.gates);
    }

    public boolean undo() {
        if (acts.kept <= 0) {
            why = NO_SUCH;
            return false;
        }
        // Gates change nothing of what is studied: what was found of FUNCTIONS stays.
        if (acts.takeBack() == Acts.ADD) {
            walker.restart();
        } else {
            studyAnew();
        }
        why = FINE;
        return true;
    }

    // ---- what is told

    public int last(int i) throws NoSuchElementException {
        int left = i;
        for (int state = 0; state < machine.states; state++) {
            if (!machine.leaves(state)) {
                if (left == 0) {
                    return state;
                }
                left--;
            }
        }
        throw new NoSuchElementException("no such state without an arc from it");
    }

    public int size(int what) {
        switch (what) {
            case 0:
                return machine.states;
            case 1:
                return machine.arcs;
            case 2:
                return machine.gates;
            case 3:
                return acts.kept;
            case 4:
                return reader.used;
            case 5:
                return machine.begin;
            default:
                return NONE;
        }
    }

    public int trouble() {
        return why;
    }

    // ---- what the calls share

    private int told(int answer) {
        why = FINE;
        return answer;
    }

    private int refuse(int trouble) {
        why = trouble;
        return NONE;
    }

    private void studyAnew() {
        study.look();
        for (int f = 0; f < FUNCTIONS; f++) {
            sheets[f].ready = false;
        }
        coder.searched = 0;
        walker.restart();
    }

    private static boolean isFunction(int f) {
        return f >= 0 && f < FUNCTIONS;
    }

    private static boolean isCube(int cube) {
        return cube >= 0 && cube < CUBES;
    }

    private boolean hasArc(int arc) {
        return arc >= 0 && arc < machine.arcs;
    }

    private int machineTrouble() {
        if (!machine.told) {
            return NO_SUCH;
        }
        return study.evil == 0 ? FINE : NOT_SO;
    }

    private int functionTrouble(int f) {
        return isFunction(f) ? machineTrouble() : NO_SUCH;
    }

    private int fewestTrouble(int f) {
        int trouble = functionTrouble(f);
        if (trouble != FINE) {
            return trouble;
        }
        return sheetOf(f).hasFewest() ? FINE : NOT_SO;
    }

    private int feedbackTrouble(int arc) {
        if (!hasArc(arc)) {
            return NO_SUCH;
        }
        if (study.evil != 0) {
            return NOT_SO;
        }
        return sheetOf(FUNCTION_S).hasFewest() && sheetOf(FUNCTION_T).hasFewest() ? FINE : NOT_SO;
    }

    private int codingTrouble(int n) {
        if (!machine.told) {
            return NO_SUCH;
        }
        if (study.evil > 0 && study.evil < Study.TWINS) {
            return NOT_SO;
        }
        return n >= 1 && n <= CODES ? FINE : NUMBER;
    }

    /** What was found of a FUNCTION; asked only for one of 0 .. 4. */
    private Sheet sheetOf(int f) {
        Sheet sheet = sheets[f >= 0 && f < FUNCTIONS ? f : 0];
        if (!sheet.ready) {
            sheet.fill();
        }
        return sheet;
    }

    private long burstOf(int arc) {
        return cubes.pointsOf(pick(study.burstCubes, arc));
    }

    private int harmBy(int f, int arc) {
        long burst = burstOf(arc);
        long both = burst | cubes.pointsOf(pick(study.turnCubes, arc));
        long from = study.fromPoint(arc);
        boolean falling = study.fallsBy(f, arc);
        int harm = 0;
        for (int g = 0; g < machine.gates; g++) {
            if (pick(machine.gateFunctions, g) == f) {
                long gate = cubes.pointsOf(pick(machine.gateCubes, g));
                if ((gate & both & study.demands.zerosOf(f)) != 0L) {
                    harm |= 1;
                }
                if (falling && (gate & burst) != 0L && (gate & from) == 0L) {
                    harm |= 4;
                }
            }
        }
        return holdsAll(f, arc) ? harm : harm | 2;
    }

    /** Whether each REQUIRED CUBE of an ARC lies within some gate. */
    private boolean holdsAll(int f, int arc) {
        int count = study.findRequired(f, arc);
        for (int i = 0; i < count; i++) {
            long wanted = cubes.pointsOf(pick(study.foundCubes, i));
            boolean held = false;
            for (int g = 0; g < machine.gates && !held; g++) {
                held = pick(machine.gateFunctions, g) == f
                        && (wanted & ~cubes.pointsOf(pick(machine.gateCubes, g))) == 0L;
            }
            if (!held) {
                return false;
            }
        }
        return true;
    }

    private int runWith(int f, long known, boolean gates) {
        if (!gates) {
            return sheetOf(f).runWith(known);
        }
        int best = 0;
        for (int g = 0; g < machine.gates; g++) {
            if (pick(machine.gateFunctions, g) == f) {
                best = stronger(best, product(cubes.pointsOf(pick(machine.gateCubes, g)), known));
            }
        }
        return best;
    }

    /** Rounds of feedback behind an ARC: how many, or the CODE in the end. */
    private int settle(int arc, boolean rounds) {
        int inputs = pick(study.inputs, machine.part(arc, Machine.TO));
        int code = pick(machine.codes, machine.part(arc, Machine.FROM));
        for (int round = 0; round < ROUNDS; round++) {
            int point = inputs | code << INPUTS;
            int next = sheetOf(FUNCTION_S).valueAt(point) | sheetOf(FUNCTION_T).valueAt(point) << 1;
            if (next == code) {
                return rounds ? round : code;
            }
            code = next;
        }
        return rounds ? NOTHING : code;
    }

    /** What a product is, its CUBE's POINTS told, in a run with those POINTS that are possible: 0, 1, 2. */
    private static int product(long gate, long known) {
        if ((gate & known) == 0L) {
            return 0;
        }
        return (known & ~gate) == 0L ? 1 : 2;
    }

    private static int stronger(int one, int other) {
        if (one == 1 || other == 1) {
            return 1;
        }
        return one == 2 ? 2 : other;
    }

    private static int pick(int[] row, int i) {
        return i >= 0 && i < row.length ? row[i] : 0;
    }

    private static void place(int[] row, int i, int value) {
        if (i >= 0 && i < row.length) {
            row[i] = value;
        }
    }

    /** STATES, begin, ARCS and gates as they were told. */
    private static final class Machine {
        static final int FROM = 0;
        static final int TO = 1;
        static final int INPUTS_UP = 2;
        static final int INPUTS_DOWN = 3;
        static final int OUTPUTS_UP = 4;
        static final int OUTPUTS_DOWN = 5;
        static final int ARC_PARTS = 6;

        boolean told;
        int states;
        final int[] codes = new int[STATES];
        int begin;
        int beginInputs;
        int beginOutputs;
        int arcs;
        private final int[][] arcRows = new int[ARCS][ARC_PARTS];
        int gates;
        final int[] gateFunctions = new int[GATES];
        final int[] gateCubes = new int[GATES];

        void clear() {
            told = false;
            states = 0;
            begin = 0;
            beginInputs = 0;
            beginOutputs = 0;
            arcs = 0;
            gates = 0;
        }

        void takeFrom(Machine other) {
            told = other.told;
            states = other.states;
            begin = other.begin;
            beginInputs = other.beginInputs;
            beginOutputs = other.beginOutputs;
            arcs = other.arcs;
            gates = other.gates;
            for (int i = 0; i < STATES; i++) {
                codes[i] = other.codes[i];
            }
            for (int i = 0; i < ARCS; i++) {
                for (int part = 0; part < ARC_PARTS; part++) {
                    arcRows[i][part] = other.arcRows[i][part];
                }
            }
            for (int i = 0; i < GATES; i++) {
                gateFunctions[i] = other.gateFunctions[i];
                gateCubes[i] = other.gateCubes[i];
            }
        }

        int part(int arc, int part) {
            return arc >= 0 && arc < ARCS && part >= 0 && part < ARC_PARTS ? arcRows[arc][part] : 0;
        }

        void setPart(int arc, int part, int value) {
            if (arc >= 0 && arc < ARCS && part >= 0 && part < ARC_PARTS) {
                arcRows[arc][part] = value;
            }
        }

        /** INPUTS of an ARC. */
        int burstInputs(int arc) {
            return part(arc, INPUTS_UP) | part(arc, INPUTS_DOWN);
        }

        boolean leaves(int state) {
            for (int arc = 0; arc < arcs; arc++) {
                if (part(arc, FROM) == state) {
                    return true;
                }
            }
            return false;
        }

        void addState(int code) {
            place(codes, states, code);
            states++;
        }

        void addGate(int f, int cube) {
            place(gateFunctions, gates, f);
            place(gateCubes, gates, cube);
            gates++;
        }

        void removeArc(int arc) {
            for (int i = arc; i < arcs - 1; i++) {
                for (int part = 0; part < ARC_PARTS; part++) {
                    setPart(i, part, part(i + 1, part));
                }
            }
            arcs--;
        }

        /** Makes room for an ARC of this number; its parts are to be set behind it. */
        void openArc(int arc) {
            for (int i = arcs; i > arc; i--) {
                for (int part = 0; part < ARC_PARTS; part++) {
                    setPart(i, part, part(i - 1, part));
                }
            }
            arcs++;
        }
    }

    /** THE TAPE, read into a draft, so that the MACHINE stays if there is a FAULT. */
    private static final class Reader {
        private static final int ROOM = 600;
        private static final int FEED = 20;

        private static final int FORM = 1;
        private static final int UNTOLD = 2;
        private static final int AGAIN = 3;
        private static final int BOUNDS = 4;
        private static final int MANY = 5;
        private static final int LACKS = 6;

        private static final int END = 0;
        private static final int WORD = 1;
        private static final int WHOLE = 2;
        private static final int SIGN = 3;
        private static final int OTHER = 4;

        private static final int LONGEST_WORD = 5;
        private static final int LONGEST_WHOLE = 3;

        private static final String INPUT_LETTERS = "abcd";
        private static final String OUTPUT_LETTERS = "pqr";
        private static final String FUNCTION_LETTERS = "pqrst";
        private static final String POINT_LETTERS = "abcdst";
        private static final String SIGNS = ";/+-'";

        private final byte[] bytes = new byte[ROOM];
        int used;
        final Machine draft = new Machine();
        int fault;
        int place;
        private int length;
        private int kind;
        private int start;
        private int next;
        private int up;
        private int down;

        boolean hasRoom() {
            return used + FEED <= ROOM;
        }

        void put(int number) {
            for (int shift = 24; shift >= 0; shift -= 8) {
                if (used >= 0 && used < ROOM) {
                    bytes[used] = (byte) (number >>> shift);
                    used++;
                }
            }
        }

        boolean reads(int n) {
            length = n;
            next = 0;
            fault = 0;
            place = 0;
            draft.clear();
            step();
            boolean more = true;
            for (int line = 0; line <= length && more; line++) {
                if (isWord("state")) {
                    readState();
                } else if (isWord("begin")) {
                    readBegin();
                } else if (isWord("arc")) {
                    readArc();
                } else if (isWord("gate")) {
                    readGate();
                } else {
                    fail(FORM);
                }
                more = fault == 0 && isSign(';');
                if (more) {
                    step();
                }
            }
            if (kind != END) {
                fail(FORM);
            }
            if (!draft.told) {
                fail(LACKS);
            }
            return fault == 0;
        }

        /** Only the first one counts: the text is met from the left. */
        private void fail(int number) {
            if (fault == 0) {
                fault = number;
                place = start;
            }
        }

        private int byteAt(int i) {
            return i >= 0 && i < length && i < ROOM ? bytes[i] & 255 : 0;
        }

        /** On to the next TOKEN; OTHER is a byte that begins none. */
        private void step() {
            start = rowEnd(next, ' ', ' ');
            int first = byteAt(start);
            if (start >= length) {
                kind = END;
                next = start;
            } else if (first >= 'a' && first <= 'z') {
                next = rowEnd(start, 'a', 'z');
                kind = next - start <= LONGEST_WORD ? WORD : OTHER;
            } else if (first >= '0' && first <= '9') {
                next = rowEnd(start, '0', '9');
                kind = next - start <= LONGEST_WHOLE ? WHOLE : OTHER;
            } else {
                next = start + 1;
                kind = SIGNS.indexOf((char) first) >= 0 ? SIGN : OTHER;
            }
        }

        private int rowEnd(int from, char low, char high) {
            int end = from;
            while (end >= 0 && end < length && end < ROOM && bytes[end] >= low && bytes[end] <= high) {
                end++;
            }
            return end;
        }

        private boolean isSign(char sign) {
            return kind == SIGN && byteAt(start) == sign;
        }

        private boolean isWord(String word) {
            if (kind != WORD || next - start != word.length()) {
                return false;
            }
            for (int i = 0; i < word.length(); i++) {
                if (word.charAt(i) != byteAt(start + i)) {
                    return false;
                }
            }
            return true;
        }

        /** The number of the TOKEN's letter among these, -1 if it is none of them. */
        private int letterAmong(String letters) {
            if (kind != WORD || next - start != 1) {
                return -1;
            }
            return letters.indexOf((char) byteAt(start));
        }

        private int wholeValue() {
            int value = 0;
            for (int i = start; i < next; i++) {
                value = value * 10 + byteAt(i) - '0';
            }
            return value;
        }

        private void readState() {
            if (draft.states >= STATES) {
                fail(MANY);
                return;
            }
            step();
            if (kind != WHOLE) {
                fail(FORM);
                return;
            }
            int code = wholeValue();
            if (code >= CODES) {
                fail(BOUNDS);
                return;
            }
            draft.addState(code);
            step();
        }

        private void readBegin() {
            if (draft.told) {
                fail(AGAIN);
                return;
            }
            draft.told = true;
            step();
            draft.begin = readStateNumber();
            draft.beginInputs = readLetters(INPUT_LETTERS);
            readSlash();
            draft.beginOutputs = readLetters(OUTPUT_LETTERS);
        }

        private void readArc() {
            if (draft.arcs >= ARCS) {
                fail(MANY);
                return;
            }
            step();
            int arc = draft.arcs;
            draft.openArc(arc);
            draft.setPart(arc, Machine.FROM, readStateNumber());
            draft.setPart(arc, Machine.TO, readStateNumber());
            readChanges(INPUT_LETTERS);
            if ((up | down) == 0) {
                fail(FORM);
            }
            draft.setPart(arc, Machine.INPUTS_UP, up);
            draft.setPart(arc, Machine.INPUTS_DOWN, down);
            readSlash();
            readChanges(OUTPUT_LETTERS);
            draft.setPart(arc, Machine.OUTPUTS_UP, up);
            draft.setPart(arc, Machine.OUTPUTS_DOWN, down);
        }

        private void readGate() {
            if (draft.gates >= GATES) {
                fail(MANY);
                return;
            }
            step();
            int f = letterAmong(FUNCTION_LETTERS);
            if (f < 0) {
                fail(FORM);
                return;
            }
            step();
            readLiterals();
            draft.addGate(f, Cubes.numberOf(up, ~(up | down)));
        }

        private void readLiterals() {
            up = 0;
            down = 0;
            for (int i = 0; i <= LETTERS && kind == WORD; i++) {
                int bit = readFresh(POINT_LETTERS, up | down);
                if (fault != 0) {
                    return;
                }
                if (isSign('\'')) {
                    down |= bit;
                    step();
                } else {
                    up |= bit;
                }
            }
        }

        private int readLetters(String letters) {
            int bits = 0;
            for (int i = 0; i <= letters.length() && fault == 0 && kind == WORD; i++) {
                bits |= readFresh(letters, bits);
            }
            return bits;
        }

        private void readChanges(String letters) {
            up = 0;
            down = 0;
            for (int i = 0; i <= letters.length() && fault == 0 && kind == WORD; i++) {
                int bit = readFresh(letters, up | down);
                if (isSign('+')) {
                    up |= bit;
                } else if (isSign('-')) {
                    down |= bit;
                } else {
                    fail(FORM);
                }
                if (fault == 0) {
                    step();
                }
            }
        }

        /** The bit of a letter that is one of these and was not yet; the TOKEN behind it is next then. */
        private int readFresh(String letters, int before) {
            int letter = letterAmong(letters);
            if (letter < 0) {
                fail(FORM);
                return 0;
            }
            int bit = 1 << letter;
            if ((before & bit) != 0) {
                fail(AGAIN);
                return 0;
            }
            step();
            return bit;
        }

        private int readStateNumber() {
            if (fault != 0) {
                return 0;
            }
            if (kind != WHOLE) {
                fail(FORM);
                return 0;
            }
            int state = wholeValue();
            if (state >= draft.states) {
                fail(UNTOLD);
                return 0;
            }
            step();
            return state;
        }

        private void readSlash() {
            if (fault != 0) {
                return;
            }
            if (isSign('/')) {
                step();
            } else {
                fail(FORM);
            }
        }
    }

    /** ACTS on a MACHINE, and the latest of them so that they can be taken back. */
    private static final class Acts {
        static final int RECODE = 0;
        static final int STRIKE = 1;
        static final int ADD = 2;
        private static final int KEPT = 12;
        private static final int KIND = 0;
        private static final int WHICH = 1;
        private static final int OLD = 2;
        private static final int WIDTH = OLD + Machine.ARC_PARTS;

        private final Machine machine;
        private final int[][] rows = new int[KEPT][WIDTH];
        int kept;

        Acts(Machine machine) {
            this.machine = machine;
        }

        void changeCode(int state, int code) {
            int[] row = fresh(RECODE, state);
            row[OLD] = pick(machine.codes, state);
            place(machine.codes, state, code);
        }

        void strikeOut(int arc) {
            int[] row = fresh(STRIKE, arc);
            for (int part = 0; part < Machine.ARC_PARTS; part++) {
                row[OLD + part] = machine.part(arc, part);
            }
            machine.removeArc(arc);
        }

        void addGate(int f, int cube) {
            fresh(ADD, machine.gates);
            machine.addGate(f, cube);
        }

        /** The latest ACT is as if it had not been; which sort it was. */
        int takeBack() {
            if (kept <= 0 || kept > KEPT) {
                return ADD;
            }
            kept--;
            int[] row = rows[kept];
            if (row[KIND] == RECODE) {
                place(machine.codes, row[WHICH], row[OLD]);
            } else if (row[KIND] == STRIKE) {
                machine.openArc(row[WHICH]);
                for (int part = 0; part < Machine.ARC_PARTS; part++) {
                    machine.setPart(row[WHICH], part, row[OLD + part]);
                }
            } else {
                machine.gates--;
            }
            return row[KIND];
        }

        /** A row for an ACT, that of the oldest if there is no other. */
        private int[] fresh(int kind, int which) {
            if (kept >= KEPT) {
                int[] oldest = rows[0];
                for (int i = 0; i < KEPT - 1; i++) {
                    rows[i] = rows[i + 1];
                }
                rows[KEPT - 1] = oldest;
                kept = KEPT - 1;
            }
            int[] row = rows[kept >= 0 ? kept : 0];
            row[KIND] = kind;
            row[WHICH] = which;
            kept++;
            return row;
        }
    }

    /** The POINTS of each CUBE as a long. */
    private static final class Cubes {
        /** For each LETTER the POINTS at which it is 1. */
        private static final long[] ONES = {
            0xAAAAAAAAAAAAAAAAL, 0xCCCCCCCCCCCCCCCCL, 0xF0F0F0F0F0F0F0F0L,
            0xFF00FF00FF00FF00L, 0xFFFF0000FFFF0000L, 0xFFFFFFFF00000000L
        };

        private final long[] table = new long[CUBES];

        Cubes() {
            for (int cube = 0; cube < CUBES; cube++) {
                long points = -1L;
                int rest = cube;
                for (int letter = LETTERS - 1; letter >= 0; letter--) {
                    int digit = rest % 3;
                    rest /= 3;
                    if (digit == 1) {
                        points &= ONES[letter];
                    } else if (digit == 0) {
                        points &= ~ONES[letter];
                    }
                }
                table[cube] = points;
            }
        }

        long pointsOf(int cube) {
            return cube >= 0 && cube < CUBES ? table[cube] : 0L;
        }

        /** The CUBE whose LETTERS are as in a POINT, but any where free has a bit. */
        static int numberOf(int point, int free) {
            int cube = 0;
            for (int letter = 0; letter < LETTERS; letter++) {
                int digit = (free >> letter & 1) != 0 ? 2 : point >> letter & 1;
                cube = cube * 3 + digit;
            }
            return cube;
        }

        /** The POINTS of that CUBE, found without its number. */
        static long pointsLike(int point, int free) {
            long points = -1L;
            for (int letter = 0; letter < LETTERS; letter++) {
                if ((free >> letter & 1) == 0) {
                    points &= (point >> letter & 1) != 0 ? ONES[letter] : ~ONES[letter];
                }
            }
            return points;
        }

        /** The digit of a LETTER in a CUBE's number. */
        static int digitOf(int cube, int letter) {
            int rest = cube;
            for (int i = LETTERS - 1; i > letter; i--) {
                rest /= 3;
            }
            return rest % 3;
        }
    }

    /** At which POINTS each FUNCTION has to be 0, has to be 1. */
    private static final class Demands {
        private final long[] zeros = new long[FUNCTIONS];
        private final long[] ones = new long[FUNCTIONS];

        void clear() {
            for (int f = 0; f < FUNCTIONS; f++) {
                zeros[f] = 0L;
                ones[f] = 0L;
            }
        }

        void takeFrom(Demands other) {
            for (int f = 0; f < FUNCTIONS; f++) {
                zeros[f] = other.zeros[f];
                ones[f] = other.ones[f];
            }
        }

        long zerosOf(int f) {
            return f >= 0 && f < FUNCTIONS ? zeros[f] : 0L;
        }

        long onesOf(int f) {
            return f >= 0 && f < FUNCTIONS ? ones[f] : 0L;
        }

        /** All FUNCTIONS at these POINTS: OUTPUTS first, the CODE's bits behind them. */
        void want(int values, long points) {
            for (int f = 0; f < FUNCTIONS; f++) {
                if ((values >> f & 1) != 0) {
                    ones[f] |= points;
                } else {
                    zeros[f] |= points;
                }
            }
        }

        boolean clash() {
            for (int f = 0; f < FUNCTIONS; f++) {
                if ((zeros[f] & ones[f]) != 0L) {
                    return true;
                }
            }
            return false;
        }
    }

    /** VALUES, what is BAD, and what FUNCTIONS have to be. */
    private static final class Study {
        static final int TWINS = 5;
        private static final int SAME = 1;
        private static final int OTHERS = 2;
        private static final int VALUELESS = 3;
        private static final int INNER = 4;
        private static final int CLASH = 6;

        final Machine machine;
        final int[] inputs = new int[STATES];
        final int[] outputs = new int[STATES];
        private final boolean[] valued = new boolean[STATES];
        private final boolean[] gone = new boolean[ARCS];
        final Demands demands = new Demands();
        int evil;
        int evilPlace = NOTHING;
        /** Of each ARC, while nothing is BAD: its CUBES, the POINT of from, all FUNCTIONS in from and in to. */
        final int[] burstCubes = new int[ARCS];
        final int[] turnCubes = new int[ARCS];
        private final int[] fromPoints = new int[ARCS];
        private final int[] valuesBefore = new int[ARCS];
        private final int[] valuesThen = new int[ARCS];
        /** REQUIRED CUBES of one ARC, as findRequired() found them. */
        final int[] foundCubes = new int[INPUTS];

        Study(Machine machine) {
            this.machine = machine;
        }

        boolean hasValues(int state) {
            return state >= 0 && state < STATES && valued[state];
        }

        boolean wasGoneAlong(int arc) {
            return arc >= 0 && arc < ARCS && gone[arc];
        }

        void look() {
            evil = 0;
            evilPlace = NOTHING;
            goAlong();
            if (evil == 0) {
                seekValueless();
            }
            if (evil == 0) {
                seekInner();
            }
            if (evil == 0) {
                seekTwins();
            }
            if (evil == 0) {
                seekClash();
            }
            if (evil == 0) {
                describeArcs();
            }
        }

        private void spoil(int number, int where) {
            if (evil == 0) {
                evil = number;
                evilPlace = where;
            }
        }

        private void goAlong() {
            for (int i = 0; i < STATES; i++) {
                valued[i] = false;
            }
            for (int i = 0; i < ARCS; i++) {
                gone[i] = false;
            }
            setValues(machine.begin, machine.beginInputs, machine.beginOutputs);
            for (int times = 0; times < machine.arcs && evil == 0; times++) {
                int arc = nextArc();
                if (arc < 0) {
                    return;
                }
                follow(arc);
            }
        }

        private void setValues(int state, int in, int out) {
            if (state >= 0 && state < STATES) {
                inputs[state] = in;
                outputs[state] = out;
                valued[state] = true;
            }
        }

        private int nextArc() {
            for (int arc = 0; arc < machine.arcs && arc < ARCS; arc++) {
                if (!gone[arc] && hasValues(machine.part(arc, Machine.FROM))) {
                    return arc;
                }
            }
            return -1;
        }

        private void follow(int arc) {
            if (arc < 0 || arc >= ARCS) {
                return;
            }
            gone[arc] = true;
            int in = pick(inputs, machine.part(arc, Machine.FROM));
            int out = pick(outputs, machine.part(arc, Machine.FROM));
            int inUp = machine.part(arc, Machine.INPUTS_UP);
            int inDown = machine.part(arc, Machine.INPUTS_DOWN);
            int outUp = machine.part(arc, Machine.OUTPUTS_UP);
            int outDown = machine.part(arc, Machine.OUTPUTS_DOWN);
            if ((in & inUp | ~in & inDown | out & outUp | ~out & outDown) != 0) {
                spoil(SAME, arc);
                return;
            }
            int inThen = in ^ (inUp | inDown);
            int outThen = out ^ (outUp | outDown);
            int to = machine.part(arc, Machine.TO);
            if (!hasValues(to)) {
                setValues(to, inThen, outThen);
            } else if (pick(inputs, to) != inThen || pick(outputs, to) != outThen) {
                spoil(OTHERS, arc);
            }
        }

        private void seekValueless() {
            for (int state = 0; state < machine.states; state++) {
                if (!hasValues(state)) {
                    spoil(VALUELESS, state);
                }
            }
        }

        private void seekInner() {
            for (int arc = 0; arc < machine.arcs; arc++) {
                for (int other = 0; other < machine.arcs; other++) {
                    boolean rivals = other != arc
                            && machine.part(arc, Machine.FROM) == machine.part(other, Machine.FROM);
                    if (rivals && (machine.burstInputs(arc) & ~machine.burstInputs(other)) == 0) {
                        spoil(INNER, arc);
                    }
                }
            }
        }

        private void seekTwins() {
            for (int state = 0; state < machine.states; state++) {
                for (int ahead = 0; ahead < state; ahead++) {
                    boolean onePoint = pointIn(machine.codes, state) == pointIn(machine.codes, ahead);
                    if (onePoint && pick(outputs, state) != pick(outputs, ahead)) {
                        spoil(TWINS, state);
                    }
                }
            }
        }

        private void seekClash() {
            demands.clear();
            for (int state = 0; state < machine.states; state++) {
                demandByState(demands, machine.codes, state);
            }
            for (int arc = 0; arc < machine.arcs && evil == 0; arc++) {
                demandByArc(demands, machine.codes, arc);
                if (demands.clash()) {
                    spoil(CLASH, arc);
                }
            }
        }

        private void describeArcs() {
            for (int arc = 0; arc < machine.arcs && arc < ARCS; arc++) {
                int from = machine.part(arc, Machine.FROM);
                int to = machine.part(arc, Machine.TO);
                int first = pointIn(machine.codes, from);
                int end = first ^ machine.burstInputs(arc);
                fromPoints[arc] = first;
                burstCubes[arc] = Cubes.numberOf(first, machine.burstInputs(arc));
                turnCubes[arc] = Cubes.numberOf(end, end ^ pointIn(machine.codes, to));
                valuesBefore[arc] = valuesIn(machine.codes, from);
                valuesThen[arc] = valuesIn(machine.codes, to);
            }
        }

        int pointIn(int[] codes, int state) {
            return pick(inputs, state) | pick(codes, state) << INPUTS;
        }

        /** All FUNCTIONS in a STATE, as bits. */
        private int valuesIn(int[] codes, int state) {
            return pick(outputs, state) | pick(codes, state) << OUTPUTS;
        }

        void demandByState(Demands into, int[] codes, int state) {
            into.want(valuesIn(codes, state), 1L << pointIn(codes, state));
        }

        void demandByArc(Demands into, int[] codes, int arc) {
            int from = machine.part(arc, Machine.FROM);
            int to = machine.part(arc, Machine.TO);
            int first = pointIn(codes, from);
            int end = first ^ machine.burstInputs(arc);
            long burst = Cubes.pointsLike(first, machine.burstInputs(arc));
            into.want(valuesIn(codes, from), burst & ~(1L << end));
            // The burst's last POINT lies within the turn, whatever the CODES: it need not be told by itself.
            into.want(valuesIn(codes, to), Cubes.pointsLike(end, end ^ pointIn(codes, to)));
        }

        boolean fallsBy(int f, int arc) {
            return (pick(valuesBefore, arc) & ~pick(valuesThen, arc) & 1 << f) != 0;
        }

        long fromPoint(int arc) {
            return 1L << pick(fromPoints, arc);
        }

        boolean isOneAtBegin(int f) {
            return (valuesIn(machine.codes, machine.begin) >> f & 1) != 0;
        }

        int beginCube() {
            return Cubes.numberOf(pointIn(machine.codes, machine.begin), 0);
        }

        /** Fills foundCubes by one ARC: how many there are. */
        int findRequired(int f, int arc) {
            int count = 0;
            boolean before = (pick(valuesBefore, arc) & 1 << f) != 0;
            boolean then = (pick(valuesThen, arc) & 1 << f) != 0;
            if (before && !then) {
                int free = machine.burstInputs(arc);
                for (int input = 0; input < INPUTS; input++) {
                    int bit = 1 << input;
                    if ((free & bit) != 0) {
                        place(foundCubes, count, Cubes.numberOf(pick(fromPoints, arc), free & ~bit));
                        count++;
                    }
                }
            }
            if (before && then) {
                place(foundCubes, count, pick(burstCubes, arc));
                count++;
            }
            if (then) {
                place(foundCubes, count, pick(turnCubes, arc));
                count++;
            }
            return count;
        }
    }

    /** What is found of one FUNCTION: REQUIRED CUBES, PRIMES, FEWEST, FORMULA. */
    private static final class Sheet {
        /** Four by an ARC at most, and begin. */
        static final int MOST_REQUIRED = ARCS * INPUTS + 1;
        /** No more CUBES of six LETTERS than this can lie within none of each other. */
        static final int MOST_PRIMES = 240;
        private static final int MOST_SIGNS = 64;
        private static final String LETTER_SIGNS = "abcdst";

        private final int function;
        private final Study study;
        private final Cubes cubes;
        private final Finder finder;
        boolean ready;
        final int[] requiredCubes = new int[MOST_REQUIRED];
        int requiredCount;
        /** The BURST of each ARC by which the FUNCTION falls, and the POINT where it begins. */
        private final long[] fallBursts = new long[ARCS];
        private final long[] fallPoints = new long[ARCS];
        int fallCount;
        final int[] primeCubes = new int[MOST_PRIMES];
        int primeCount;
        final int[] chosenPrimes = new int[Finder.MOST];
        int fewestCount;
        int neededCount;
        int firstLacking;
        int literalCount;
        final int[] signs = new int[MOST_SIGNS];
        int signCount;

        Sheet(int function, Study study, Cubes cubes, Finder finder) {
            this.function = function;
            this.study = study;
            this.cubes = cubes;
            this.finder = finder;
        }

        void fill() {
            gatherRequired();
            gatherFalls();
            gatherPrimes();
            finder.forget(requiredCount);
            for (int p = 0; p < primeCount; p++) {
                finder.take(heldWithin(cubes.pointsOf(pick(primeCubes, p))));
            }
            neededCount = finder.countNeeded();
            firstLacking = finder.firstLacking();
            fewestCount = firstLacking == NOTHING ? finder.leastRow(chosenPrimes) : NOTHING;
            spell();
            ready = true;
        }

        boolean hasFewest() {
            return fewestCount >= 0 && fewestCount <= Finder.MOST;
        }

        int valueAt(int point) {
            return runWith(1L << point) == 1 ? 1 : 0;
        }

        int runWith(long known) {
            int best = 0;
            for (int i = 0; i < fewestCount && i < Finder.MOST; i++) {
                best = stronger(best, product(cubes.pointsOf(chosenCube(i)), known));
            }
            return best;
        }

        private int chosenCube(int i) {
            return pick(primeCubes, pick(chosenPrimes, i));
        }

        private void gatherRequired() {
            requiredCount = 0;
            for (int arc = 0; arc < study.machine.arcs; arc++) {
                int found = study.findRequired(function, arc);
                for (int i = 0; i < found; i++) {
                    addRequired(pick(study.foundCubes, i));
                }
            }
            if (study.isOneAtBegin(function)) {
                addRequired(study.beginCube());
            }
        }

        private void addRequired(int cube) {
            for (int i = 0; i < requiredCount; i++) {
                if (pick(requiredCubes, i) == cube) {
                    return;
                }
            }
            place(requiredCubes, requiredCount, cube);
            requiredCount++;
        }

        private void gatherFalls() {
            fallCount = 0;
            for (int arc = 0; arc < study.machine.arcs && fallCount < ARCS; arc++) {
                if (study.fallsBy(function, arc)) {
                    fallBursts[fallCount] = cubes.pointsOf(pick(study.burstCubes, arc));
                    fallPoints[fallCount] = study.fromPoint(arc);
                    fallCount++;
                }
            }
        }

        boolean isSafe(long points) {
            if ((points & study.demands.zerosOf(function)) != 0L) {
                return false;
            }
            for (int i = 0; i < fallCount && i < ARCS; i++) {
                if ((points & fallBursts[i]) != 0L && (points & fallPoints[i]) == 0L) {
                    return false;
                }
            }
            return true;
        }

        /**
         * A CUBE that another lies within has the greater number of the two: from the greatest on, a SAFE one that
         * lies within no PRIME found so far is a PRIME.
         */
        private void gatherPrimes() {
            primeCount = 0;
            for (int cube = CUBES - 1; cube >= 0; cube--) {
                long points = cubes.pointsOf(cube);
                if (isSafe(points) && !liesWithinPrime(points) && primeCount < MOST_PRIMES) {
                    primeCubes[primeCount] = cube;
                    primeCount++;
                }
            }
            for (int low = 0; low < primeCount / 2; low++) {
                int high = primeCount - 1 - low;
                int cube = pick(primeCubes, low);
                place(primeCubes, low, pick(primeCubes, high));
                place(primeCubes, high, cube);
            }
        }

        private boolean liesWithinPrime(long points) {
            for (int p = 0; p < primeCount; p++) {
                if ((points & ~cubes.pointsOf(pick(primeCubes, p))) == 0L) {
                    return true;
                }
            }
            return false;
        }

        /** Which REQUIRED CUBES lie within these POINTS, as bits. */
        private long heldWithin(long points) {
            long held = 0L;
            for (int i = 0; i < requiredCount; i++) {
                if ((cubes.pointsOf(pick(requiredCubes, i)) & ~points) == 0L) {
                    held |= 1L << i;
                }
            }
            return held;
        }

        private void spell() {
            signCount = 0;
            literalCount = 0;
            if (!hasFewest()) {
                return;
            }
            for (int i = 0; i < fewestCount; i++) {
                if (i > 0) {
                    write('+');
                }
                spellCube(chosenCube(i));
            }
            if (fewestCount == 0) {
                write('0');
            }
        }

        private void spellCube(int cube) {
            int before = literalCount;
            for (int letter = 0; letter < LETTERS; letter++) {
                int digit = Cubes.digitOf(cube, letter);
                if (digit != 2) {
                    literalCount++;
                    write(LETTER_SIGNS.charAt(letter));
                }
                if (digit == 0) {
                    write('\'');
                }
            }
            if (literalCount == before) {
                write('1');
            }
        }

        private void write(char sign) {
            place(signs, signCount, sign);
            signCount++;
        }
    }

    /** Searches COVERS; its rows serve all FUNCTIONS, one after another. */
    private static final class Finder {
        static final int MOST = 5;

        /** For each PRIME which REQUIRED CUBES lie within it, as bits. */
        private final long[] holds = new long[Sheet.MOST_PRIMES];
        private int primeCount;
        private int requiredCount;
        /** REQUIRED CUBES as bits, those that lie within the fewest PRIMES first. */
        private final long[] rarest = new long[Sheet.MOST_REQUIRED];

        void forget(int required) {
            requiredCount = required;
            primeCount = 0;
        }

        void take(long held) {
            if (primeCount >= 0 && primeCount < Sheet.MOST_PRIMES) {
                holds[primeCount] = held;
                primeCount++;
            }
        }

        private long heldBy(int p) {
            return p >= 0 && p < Sheet.MOST_PRIMES ? holds[p] : 0L;
        }

        /** Within how many PRIMES a REQUIRED CUBE lies, which is told as its bit. */
        private int holdersOf(long bit) {
            int count = 0;
            for (int p = 0; p < primeCount; p++) {
                if ((heldBy(p) & bit) != 0L) {
                    count++;
                }
            }
            return count;
        }

        int countNeeded() {
            long alone = 0L;
            for (int i = 0; i < requiredCount; i++) {
                if (holdersOf(1L << i) == 1) {
                    alone |= 1L << i;
                }
            }
            // A PRIME that holds one of these is the one that holds it.
            return holdersOf(alone);
        }

        int firstLacking() {
            for (int i = 0; i < requiredCount; i++) {
                if (holdersOf(1L << i) == 0) {
                    return i;
                }
            }
            return NOTHING;
        }

        /** How many PRIMES the fewest are (6: more than 5), and the least row of so many. */
        int leastRow(int[] row) {
            sortByRarity();
            long open = (1L << requiredCount) - 1L;
            int count = 0;
            while (count <= MOST && !canHold(open, count, 0)) {
                count++;
            }
            // Of the least row each PRIME is the first one with which later ones can still hold the rest.
            int i = 0;
            for (int p = 0; p < primeCount && i < count && count <= MOST; p++) {
                if ((heldBy(p) & open) != 0L && canHold(open & ~heldBy(p), count - i - 1, p + 1)) {
                    place(row, i, p);
                    open &= ~heldBy(p);
                    i++;
                }
            }
            return count;
        }

        private void sortByRarity() {
            for (int i = 0; i < requiredCount && i < Sheet.MOST_REQUIRED; i++) {
                long bit = 1L << i;
                int holders = holdersOf(bit);
                int slot = i;
                while (slot > 0 && holdersOf(rarest[slot - 1]) > holders) {
                    rarest[slot] = rarest[slot - 1];
                    slot--;
                }
                rarest[slot] = bit;
            }
        }

        private long rarestOf(long open) {
            for (int i = 0; i < requiredCount && i < Sheet.MOST_REQUIRED; i++) {
                if ((rarest[i] & open) != 0L) {
                    return rarest[i];
                }
            }
            return 0L;
        }

        /** Whether left PRIMES from start on can hold all that is open; left is 5 at most and falls. */
        private boolean canHold(long open, int left, int start) {
            if (open == 0L) {
                return true;
            }
            int most = mostHeld(open, start);
            int count = Long.bitCount(open);
            if (left <= 0 || left > MOST || most * left < count) {
                return false;
            }
            if (left == 1 || most == count) {
                return most == count;
            }
            long bit = rarestOf(open);
            for (int p = start; p < primeCount; p++) {
                if ((heldBy(p) & bit) != 0L && canHold(open & ~heldBy(p), left - 1, start)) {
                    return true;
                }
            }
            return false;
        }

        private int mostHeld(long open, int start) {
            int most = 0;
            for (int p = start; p < primeCount; p++) {
                most = Math.max(most, Long.bitCount(heldBy(p) & open));
            }
            return most;
        }
    }

    /** Codes for all STATES, STATE by STATE, so long as nothing clashes. */
    private static final class Coder {
        private final Study study;
        private final int[] codes = new int[STATES];
        private final Demands[] levels = new Demands[STATES + 1];
        final int[] first = new int[STATES];
        int found;
        /** For which n the search was; 0 if it must be made anew. */
        int searched;

        Coder(Study study) {
            this.study = study;
            for (int i = 0; i <= STATES; i++) {
                levels[i] = new Demands();
            }
        }

        void search(int n) {
            if (searched == n) {
                return;
            }
            found = 0;
            levels[0].clear();
            assign(0, n);
            searched = n;
        }

        private void assign(int state, int n) {
            if (state < 0 || state >= STATES || state >= study.machine.states) {
                keep();
                return;
            }
            for (int code = 0; code < n; code++) {
                codes[state] = code;
                Demands level = levels[state + 1];
                level.takeFrom(levels[state]);
                demandUpTo(level, state);
                if (!level.clash()) {
                    assign(state + 1, n);
                }
            }
        }

        private void keep() {
            if (found == 0) {
                for (int i = 0; i < STATES; i++) {
                    first[i] = codes[i];
                }
            }
            found++;
        }

        /** What comes with a STATE: its own POINT, and ARCS whose other STATE has its CODE already. */
        private void demandUpTo(Demands level, int state) {
            study.demandByState(level, codes, state);
            Machine machine = study.machine;
            for (int arc = 0; arc < machine.arcs; arc++) {
                if (Math.max(machine.part(arc, Machine.FROM), machine.part(arc, Machine.TO)) == state) {
                    study.demandByArc(level, codes, arc);
                }
            }
        }
    }

    /** THE WALK. */
    private static final class Walk {
        private final Study study;
        int place;
        int changed;

        Walk(Study study) {
            this.study = study;
        }

        void restart() {
            place = study.machine.begin;
            changed = 0;
        }

        int inputsNow() {
            return pick(study.inputs, place) ^ changed;
        }

        /** Whether an INPUT could change; then it has, and an ARC whose INPUTS all have is gone along. */
        boolean changes(int input) {
            int bit = 1 << input;
            if ((changed & bit) != 0) {
                return false;
            }
            int then = changed | bit;
            Machine machine = study.machine;
            boolean possible = false;
            for (int arc = 0; arc < machine.arcs; arc++) {
                if (machine.part(arc, Machine.FROM) == place) {
                    int wanted = machine.burstInputs(arc);
                    if (wanted == then) {
                        place = machine.part(arc, Machine.TO);
                        changed = 0;
                        return true;
                    }
                    possible = possible || (then & ~wanted) == 0;
                }
            }
            if (possible) {
                changed = then;
            }
            return possible;
        }
    }
}
