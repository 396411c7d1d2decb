import java.util.ArrayList;
import java.util.Arrays;
import java.util.LinkedHashSet;
import java.util.List;
import java.util.NoSuchElementException;
import java.util.Set;

/**
 * The document once more, as plainly and slowly as can be, to hold the class against: CUBES as rows of digits,
 * POINTS one by one, every COVER and every coding tried, a whole copy of the MACHINE for each ACT.
 */
final class PlainDesk {
    private static final String LETTERS = "abcdst";

    private static final class Arc {
        int from;
        int to;
        String inUp = "";
        String inDown = "";
        String outUp = "";
        String outDown = "";
        boolean gone;

        String inputs() {
            return inUp + inDown;
        }
    }

    private static final class Gate {
        int function;
        int[] cube = {2, 2, 2, 2, 2, 2};
    }

    private static final class Machine {
        final List<Integer> codes = new ArrayList<>();
        int begin = -1;
        String beginIn = "";
        String beginOut = "";
        final List<Arc> arcs = new ArrayList<>();
        final List<Gate> gates = new ArrayList<>();

        Machine copy() {
            Machine other = new Machine();
            other.codes.addAll(codes);
            other.begin = begin;
            other.beginIn = beginIn;
            other.beginOut = beginOut;
            other.arcs.addAll(arcs);
            other.gates.addAll(gates);
            return other;
        }
    }

    private final StringBuilder tape = new StringBuilder();
    private Machine m;
    private final List<Machine> before = new ArrayList<>();
    private int trouble;
    private int fault;
    private int place;
    private int bad;
    private int badAt;
    private String[] inputs;
    private String[] outputs;
    private int walkState;
    private String changed = "";
    private final int[][][] fewestKept = new int[5][][];

    // ---- the text

    int feed(int... numbers) {
        if (tape.length() + 20 > 600) {
            return -1;
        }
        for (int number : numbers) {
            for (int i = 3; i >= 0; i--) {
                tape.append((char) (number >> 8 * i & 255));
            }
        }
        return tape.length();
    }

    private record Token(char kind, String text, int place) {
    }

    private static List<Token> tokens(String text) {
        List<Token> tokens = new ArrayList<>();
        java.util.regex.Matcher row = java.util.regex.Pattern.compile("[a-z]+|[0-9]+| +|.", java.util.regex.Pattern.DOTALL)
                .matcher(text);
        while (row.find()) {
            String it = row.group();
            char kind = '?';
            if (it.isBlank() && it.charAt(0) == ' ') {
                continue;
            } else if (it.matches("[a-z]{1,5}")) {
                kind = 'w';
            } else if (it.matches("[0-9]{1,3}")) {
                kind = 'n';
            } else if (it.matches("[;/+']|-")) {
                kind = it.charAt(0);
            }
            tokens.add(new Token(kind, it, row.start()));
        }
        tokens.add(new Token('$', "", text.length()));
        return tokens;
    }

    private static final class Fault extends Exception {
        private static final long serialVersionUID = 1L;
        final int number;

        Fault(int number) {
            this.number = number;
        }
    }

    /** One rule for each place in a line; each takes a token and answers where the line is then. */
    private static String onward(String at, Token t, Machine m) throws Fault {
        boolean word = t.kind == 'w';
        boolean over = t.kind == ';' || t.kind == '$';
        Arc arc = m.arcs.isEmpty() ? null : m.arcs.get(m.arcs.size() - 1);
        Gate gate = m.gates.isEmpty() ? null : m.gates.get(m.gates.size() - 1);
        switch (at) {
            case "line":
                return newLine(t, m);
            case "code":
                need(t.kind == 'n', 1);
                need(Integer.parseInt(t.text) < 4, 4);
                m.codes.add(Integer.parseInt(t.text));
                return "over";
            case "over":
                need(over, 1);
                return "line";
            case "begin":
                m.begin = told(t, m);
                return "begin in";
            case "begin in":
                if (t.kind == '/') {
                    return "begin out";
                }
                need(word && t.text.matches("[abcd]"), 1);
                need(!m.beginIn.contains(t.text), 3);
                m.beginIn += t.text;
                return at;
            case "begin out":
                if (over) {
                    return "line";
                }
                need(word && t.text.matches("[pqr]"), 1);
                need(!m.beginOut.contains(t.text), 3);
                m.beginOut += t.text;
                return at;
            case "from":
                arc.from = told(t, m);
                return "to";
            case "to":
                arc.to = told(t, m);
                return "in";
            case "in":
                if (t.kind == '/' && !arc.inputs().isEmpty()) {
                    return "out";
                }
                need(word && t.text.matches("[abcd]"), 1);
                need(!arc.inputs().contains(t.text), 3);
                return "in " + t.text;
            case "out":
                if (over) {
                    return "line";
                }
                need(word && t.text.matches("[pqr]"), 1);
                need(!(arc.outUp + arc.outDown).contains(t.text), 3);
                return "out " + t.text;
            case "function":
                need(word && t.text.matches("[pqrst]"), 1);
                gate.function = "pqrst".indexOf(t.text);
                return "literal";
            case "literal":
            case "literal or '":
                if (t.kind == '\'' && at.equals("literal or '")) {
                    for (int i = 0; i < 6; i++) {
                        gate.cube[i] = gate.cube[i] == 3 ? 0 : gate.cube[i];
                    }
                    return "literal";
                }
                for (int i = 0; i < 6; i++) {
                    gate.cube[i] = gate.cube[i] == 3 ? 1 : gate.cube[i];
                }
                if (over) {
                    return "line";
                }
                need(word && t.text.matches("[abcdst]"), 1);
                need(gate.cube[LETTERS.indexOf(t.text)] == 2, 3);
                gate.cube[LETTERS.indexOf(t.text)] = 3;
                return "literal or '";
            default:
                return change(at, t, arc);
        }
    }

    private static String change(String at, Token t, Arc arc) throws Fault {
        need(t.kind == '+' || t.kind == '-', 1);
        String letter = at.substring(at.length() - 1);
        if (at.startsWith("in")) {
            if (t.kind == '+') {
                arc.inUp += letter;
            } else {
                arc.inDown += letter;
            }
            return "in";
        }
        if (t.kind == '+') {
            arc.outUp += letter;
        } else {
            arc.outDown += letter;
        }
        return "out";
    }

    private static String newLine(Token t, Machine m) throws Fault {
        need(t.kind == 'w', 1);
        switch (t.text) {
            case "state":
                need(m.codes.size() < 6, 5);
                return "code";
            case "begin":
                need(m.begin == -1, 3);
                m.begin = -2;
                return "begin";
            case "arc":
                need(m.arcs.size() < 8, 5);
                m.arcs.add(new Arc());
                return "from";
            case "gate":
                need(m.gates.size() < 16, 5);
                m.gates.add(new Gate());
                return "function";
            default:
                throw new Fault(1);
        }
    }

    private static int told(Token t, Machine m) throws Fault {
        need(t.kind == 'n', 1);
        need(Integer.parseInt(t.text) < m.codes.size(), 2);
        return Integer.parseInt(t.text);
    }

    private static void need(boolean so, int number) throws Fault {
        if (!so) {
            throw new Fault(number);
        }
    }

    int machine(int n) {
        if (n < 0 || n > tape.length()) {
            return no(2);
        }
        String text = tape.substring(0, n);
        tape.setLength(0);
        Machine fresh = new Machine();
        String at = "line";
        Token now = null;
        fault = 0;
        try {
            for (Token t : tokens(text)) {
                now = t;
                at = onward(at, t, fresh);
            }
            need(fresh.begin >= 0, 6);
        } catch (Fault f) {
            fault = f.number;
            place = now.place;
            return no(4);
        }
        m = fresh;
        before.clear();
        anew();
        return yes(m.arcs.size());
    }

    int fault() {
        return fault;
    }

    int where() {
        return trouble == 4 ? place : -1;
    }

    // ---- lawful or not

    private int no(int why) {
        trouble = why;
        return -1;
    }

    private int yes(int answer) {
        trouble = 0;
        return answer;
    }

    private void anew() {
        walkState = m.begin;
        changed = "";
        Arrays.fill(fewestKept, null);
        inputs = new String[m.codes.size()];
        outputs = new String[m.codes.size()];
        judge();
    }

    private static String without(String row, String those) {
        StringBuilder left = new StringBuilder();
        for (char c : row.toCharArray()) {
            if (those.indexOf(c) < 0) {
                left.append(c);
            }
        }
        return left.toString();
    }

    private static String sorted(String row) {
        char[] letters = row.toCharArray();
        Arrays.sort(letters);
        return new String(letters);
    }

    private void judge() {
        bad = 0;
        badAt = -2;
        for (int i = 0; i < m.arcs.size(); i++) {
            Arc copy = new Arc();
            Arc old = m.arcs.get(i);
            copy.from = old.from;
            copy.to = old.to;
            copy.inUp = old.inUp;
            copy.inDown = old.inDown;
            copy.outUp = old.outUp;
            copy.outDown = old.outDown;
            m.arcs.set(i, copy);
        }
        inputs[m.begin] = sorted(m.beginIn);
        outputs[m.begin] = sorted(m.beginOut);
        boolean more = true;
        while (more) {
            more = false;
            for (int i = 0; i < m.arcs.size() && !more; i++) {
                Arc arc = m.arcs.get(i);
                if (!arc.gone && inputs[arc.from] != null) {
                    more = true;
                    arc.gone = true;
                    String all = inputs[arc.from] + outputs[arc.from];
                    String up = arc.inUp + arc.outUp;
                    String down = arc.inDown + arc.outDown;
                    if (!without(up, all).equals(up) || !without(down, all).isEmpty()) {
                        bad = 1;
                        badAt = i;
                        return;
                    }
                    String in = sorted(without(inputs[arc.from], arc.inDown) + arc.inUp);
                    String out = sorted(without(outputs[arc.from], arc.outDown) + arc.outUp);
                    if (inputs[arc.to] == null) {
                        inputs[arc.to] = in;
                        outputs[arc.to] = out;
                    } else if (!inputs[arc.to].equals(in) || !outputs[arc.to].equals(out)) {
                        bad = 2;
                        badAt = i;
                        return;
                    }
                }
            }
        }
        judgeRest();
    }

    private void judgeRest() {
        for (int i = 0; i < inputs.length; i++) {
            if (inputs[i] == null) {
                bad = 3;
                badAt = i;
                return;
            }
        }
        for (Arc arc : m.arcs) {
            for (Arc other : m.arcs) {
                if (arc != other && arc.from == other.from && without(arc.inputs(), other.inputs()).isEmpty()) {
                    bad = 4;
                    badAt = m.arcs.indexOf(arc);
                    return;
                }
            }
        }
        int[] found = judgeCodes(m.codes);
        bad = found[0];
        badAt = found[1];
    }

    private int[] judgeCodes(List<Integer> codes) {
        for (int i = 0; i < inputs.length; i++) {
            for (int j = 0; j < i; j++) {
                if (inputs[i].equals(inputs[j]) && codes.get(i).equals(codes.get(j)) && !outputs[i].equals(outputs[j])) {
                    return new int[] {5, i};
                }
            }
        }
        for (int arcs = 0; arcs <= m.arcs.size(); arcs++) {
            for (int f = 0; f < 5; f++) {
                if (Arrays.stream(table(f, codes, arcs)).anyMatch(v -> v == 3)) {
                    return new int[] {6, arcs - 1};
                }
            }
        }
        return new int[] {0, -2};
    }

    private static int bits(String row, String names) {
        int bits = 0;
        for (char c : row.toCharArray()) {
            bits |= 1 << names.indexOf(c);
        }
        return bits;
    }

    private int value(int f, int state, List<Integer> codes) {
        if (f < 3) {
            return outputs[state].indexOf("pqr".charAt(f)) >= 0 ? 1 : 0;
        }
        return codes.get(state) >> (f - 3) & 1;
    }

    private int point(int state, int code) {
        return bits(inputs[state], "abcd") + 16 * code;
    }

    /** 0, 1, 2 either, 3 both: by all STATES and by the first so many ARCS. */
    private int[] table(int f, List<Integer> codes, int arcs) {
        boolean[][] has = new boolean[64][2];
        for (int s = 0; s < inputs.length; s++) {
            has[point(s, codes.get(s))][value(f, s, codes)] = true;
        }
        for (Arc arc : m.arcs.subList(0, arcs)) {
            int from = codes.get(arc.from);
            int to = codes.get(arc.to);
            int change = bits(arc.inputs(), "abcd");
            int was = point(arc.from, from);
            for (int p = 0; p < 64; p++) {
                if (((p ^ was) & ~change) == 0) {
                    boolean all = ((p ^ was) & change) == change;
                    has[p][value(f, all ? arc.to : arc.from, codes)] = true;
                }
                boolean there = (p & 15) == bits(inputs[arc.to], "abcd");
                int alike = ~(from ^ to) & 3;
                if (there && ((p >> 4 ^ from) & alike) == 0) {
                    has[p][value(f, arc.to, codes)] = true;
                }
            }
        }
        int[] table = new int[64];
        for (int p = 0; p < 64; p++) {
            table[p] = has[p][0] && has[p][1] ? 3 : has[p][1] ? 1 : has[p][0] ? 0 : 2;
        }
        return table;
    }

    int bad() {
        return m == null ? no(1) : yes(bad);
    }

    int badAt() {
        return m == null ? no(1) : yes(badAt);
    }

    int state(int i, int what) {
        if (m == null || i < 0 || i >= m.codes.size() || what < 0 || what > 2) {
            return no(1);
        }
        if (what == 0) {
            return yes(m.codes.get(i));
        }
        if (inputs[i] == null) {
            return yes(-2);
        }
        return yes(what == 1 ? bits(inputs[i], "abcd") : bits(outputs[i], "pqr"));
    }

    private boolean arcThere(int i) {
        return m != null && i >= 0 && i < m.arcs.size();
    }

    int arc(int i, int what) {
        if (!arcThere(i) || what < 0 || what > 6) {
            return no(1);
        }
        Arc arc = m.arcs.get(i);
        int[] all = {arc.from, arc.to, bits(arc.inUp, "abcd"), bits(arc.inDown, "abcd"), bits(arc.outUp, "pqr"),
            bits(arc.outDown, "pqr"), arc.gone ? 1 : 0};
        return yes(all[what]);
    }

    int gate(int i, int what) {
        if (m == null || i < 0 || i >= m.gates.size() || what < 0 || what > 1) {
            return no(1);
        }
        return yes(what == 0 ? m.gates.get(i).function : number(m.gates.get(i).cube));
    }

    // ---- cubes

    private static int number(int[] cube) {
        int number = 0;
        for (int digit : cube) {
            number = 3 * number + digit;
        }
        return number;
    }

    private static int[] cube(int number) {
        int[] cube = new int[6];
        for (int i = 5; i >= 0; i--) {
            cube[i] = number % 3;
            number /= 3;
        }
        return cube;
    }

    private static boolean has(int[] cube, int point) {
        for (int i = 0; i < 6; i++) {
            if (cube[i] != 2 && cube[i] != (point >> i & 1)) {
                return false;
            }
        }
        return true;
    }

    private static boolean within(int[] small, int[] big) {
        for (int i = 0; i < 6; i++) {
            if (big[i] != 2 && big[i] != small[i]) {
                return false;
            }
        }
        return true;
    }

    private static int[] cubeAt(int point) {
        int[] cube = new int[6];
        for (int i = 0; i < 6; i++) {
            cube[i] = point >> i & 1;
        }
        return cube;
    }

    private int[] burst(Arc arc) {
        int[] cube = cubeAt(point(arc.from, m.codes.get(arc.from)));
        for (char c : arc.inputs().toCharArray()) {
            cube[LETTERS.indexOf(c)] = 2;
        }
        return cube;
    }

    private int[] turn(Arc arc) {
        int[] one = cubeAt(point(arc.to, m.codes.get(arc.from)));
        int[] other = cubeAt(point(arc.to, m.codes.get(arc.to)));
        for (int i = 0; i < 6; i++) {
            if (one[i] != other[i]) {
                one[i] = 2;
            }
        }
        return one;
    }

    private List<Integer> requiredBy(int f, Arc arc) {
        List<Integer> row = new ArrayList<>();
        int from = value(f, arc.from, m.codes);
        int to = value(f, arc.to, m.codes);
        if (from == 1 && to == 1) {
            row.add(number(burst(arc)));
        }
        if (from == 1 && to == 0) {
            for (char c : sorted(arc.inputs()).toCharArray()) {
                int[] cube = burst(arc);
                cube[LETTERS.indexOf(c)] = inputs[arc.from].indexOf(c) >= 0 ? 1 : 0;
                row.add(number(cube));
            }
        }
        if (to == 1) {
            row.add(number(turn(arc)));
        }
        return row;
    }

    private List<Integer> allRequired(int f) {
        Set<Integer> row = new LinkedHashSet<>();
        for (Arc arc : m.arcs) {
            row.addAll(requiredBy(f, arc));
        }
        if (value(f, m.begin, m.codes) == 1) {
            row.add(number(cubeAt(point(m.begin, m.codes.get(m.begin)))));
        }
        return new ArrayList<>(row);
    }

    private boolean fallsBy(int f, Arc arc) {
        return value(f, arc.from, m.codes) == 1 && value(f, arc.to, m.codes) == 0;
    }

    private boolean meets(int[] one, int[] other) {
        for (int p = 0; p < 64; p++) {
            if (has(one, p) && has(other, p)) {
                return true;
            }
        }
        return false;
    }

    private boolean isSafe(int f, int[] cube, int[] table) {
        for (int p = 0; p < 64; p++) {
            if (has(cube, p) && table[p] == 0) {
                return false;
            }
        }
        for (Arc arc : m.arcs) {
            if (fallsBy(f, arc) && meets(cube, burst(arc)) && !has(cube, point(arc.from, m.codes.get(arc.from)))) {
                return false;
            }
        }
        return true;
    }

    private int[] table(int f) {
        return table(f, m.codes, m.arcs.size());
    }

    private List<int[]> allPrimes(int f) {
        List<int[]> safe = new ArrayList<>();
        int[] table = table(f);
        for (int c = 0; c < 729; c++) {
            if (isSafe(f, cube(c), table)) {
                safe.add(cube(c));
            }
        }
        List<int[]> primes = new ArrayList<>();
        for (int[] one : safe) {
            boolean inner = false;
            for (int[] other : safe) {
                inner = inner || one != other && within(one, other);
            }
            if (!inner) {
                primes.add(one);
            }
        }
        return primes;
    }

    /** Rows: the chosen PRIMES' numbers (null: none), their number as fewest() tells it, the PRIMES' CUBES. */
    private int[][] found(int f) {
        if (fewestKept[f] != null) {
            return fewestKept[f];
        }
        List<int[]> primes = allPrimes(f);
        List<Integer> required = allRequired(f);
        int[] all = primes.stream().mapToInt(PlainDesk::number).toArray();
        int[][] answer = {null, {6}, all};
        for (int r : required) {
            if (primes.stream().noneMatch(p -> within(cube(r), p))) {
                answer[1][0] = -2;
            }
        }
        if (answer[1][0] == 6) {
            boolean[][] holds = new boolean[all.length][required.size()];
            for (int p = 0; p < all.length; p++) {
                for (int r = 0; r < required.size(); r++) {
                    holds[p][r] = within(cube(required.get(r)), cube(all[p]));
                }
            }
            for (int size = 0; size <= 5 && answer[0] == null; size++) {
                int[] row = new int[size];
                if (tryRows(row, 0, holds, required.size())) {
                    answer[0] = row;
                    answer[1][0] = size;
                }
            }
        }
        fewestKept[f] = answer;
        return answer;
    }

    private static boolean tryRows(int[] row, int at, boolean[][] holds, int required) {
        if (at == row.length) {
            for (int r = 0; r < required; r++) {
                boolean held = false;
                for (int p : row) {
                    held = held || holds[p][r];
                }
                if (!held) {
                    return false;
                }
            }
            return true;
        }
        for (int p = at == 0 ? 0 : row[at - 1] + 1; p < holds.length; p++) {
            row[at] = p;
            if (tryRows(row, at + 1, holds, required)) {
                return true;
            }
        }
        return false;
    }

    // ---- functions

    private int functionTrouble(int f) {
        if (m == null || f < 0 || f > 4) {
            return 1;
        }
        return bad != 0 ? 5 : 0;
    }

    private int fewestTrouble(int f) {
        int why = functionTrouble(f);
        return why != 0 ? why : found(f)[0] == null ? 5 : 0;
    }

    int at(int f, int point) {
        int why = functionTrouble(f);
        return why != 0 ? no(why) : point < 0 || point > 63 ? no(2) : yes(table(f)[point]);
    }

    int points(int f, int v) {
        int why = functionTrouble(f);
        if (why != 0) {
            return no(why);
        }
        return v < 0 || v > 2 ? no(2) : yes((int) Arrays.stream(table(f)).filter(x -> x == v).count());
    }

    int required(int f) {
        int why = functionTrouble(f);
        return why != 0 ? no(why) : yes(allRequired(f).size());
    }

    int requiredCube(int f, int i) {
        int why = functionTrouble(f);
        if (why != 0) {
            return no(why);
        }
        return i < 0 || i >= allRequired(f).size() ? no(1) : yes(allRequired(f).get(i));
    }

    int falls(int f) {
        int why = functionTrouble(f);
        return why != 0 ? no(why) : yes((int) m.arcs.stream().filter(arc -> fallsBy(f, arc)).count());
    }

    int safe(int f, int cube) {
        int why = functionTrouble(f);
        if (why != 0) {
            return no(why);
        }
        return cube < 0 || cube > 728 ? no(2) : yes(isSafe(f, cube(cube), table(f)) ? 1 : 0);
    }

    int primes(int f) {
        int why = functionTrouble(f);
        return why != 0 ? no(why) : yes(found(f)[2].length);
    }

    int prime(int f, int i) {
        int why = functionTrouble(f);
        if (why != 0) {
            return no(why);
        }
        return i < 0 || i >= found(f)[2].length ? no(1) : yes(found(f)[2][i]);
    }

    int needed(int f) {
        int why = functionTrouble(f);
        if (why != 0) {
            return no(why);
        }
        Set<Integer> only = new LinkedHashSet<>();
        for (int r : allRequired(f)) {
            List<Integer> holders = holders(f, r);
            if (holders.size() == 1) {
                only.addAll(holders);
            }
        }
        return yes(only.size());
    }

    private List<Integer> holders(int f, int required) {
        List<Integer> holders = new ArrayList<>();
        for (int p : found(f)[2]) {
            if (within(cube(required), cube(p))) {
                holders.add(p);
            }
        }
        return holders;
    }

    int lacking(int f) {
        int why = functionTrouble(f);
        if (why != 0) {
            return no(why);
        }
        List<Integer> required = allRequired(f);
        for (int i = 0; i < required.size(); i++) {
            if (holders(f, required.get(i)).isEmpty()) {
                return yes(i);
            }
        }
        return yes(-2);
    }

    int fewest(int f) {
        int why = functionTrouble(f);
        return why != 0 ? no(why) : yes(found(f)[1][0]);
    }

    int chosen(int f, int i) {
        int why = fewestTrouble(f);
        if (why != 0) {
            return no(why);
        }
        return i < 0 || i >= found(f)[0].length ? no(1) : yes(found(f)[0][i]);
    }

    private String spelled(int f) {
        List<String> terms = new ArrayList<>();
        for (int p : found(f)[0]) {
            StringBuilder term = new StringBuilder();
            int[] cube = cube(found(f)[2][p]);
            for (int i = 0; i < 6; i++) {
                term.append(cube[i] == 2 ? "" : LETTERS.substring(i, i + 1)).append(cube[i] == 0 ? "'" : "");
            }
            terms.add(term.length() == 0 ? "1" : term.toString());
        }
        return terms.isEmpty() ? "0" : String.join("+", terms);
    }

    int literals(int f) {
        int why = fewestTrouble(f);
        return why != 0 ? no(why) : yes((int) spelled(f).chars().filter(Character::isLetter).count());
    }

    int formula(int f) {
        int why = fewestTrouble(f);
        return why != 0 ? no(why) : yes(spelled(f).length());
    }

    int sign(int f, int i) {
        int why = fewestTrouble(f);
        if (why != 0) {
            return no(why);
        }
        return i < 0 || i >= spelled(f).length() ? no(1) : yes(spelled(f).charAt(i));
    }

    // ---- gates, runs

    private List<int[]> gatesOf(int f) {
        List<int[]> cubes = new ArrayList<>();
        for (Gate gate : m.gates) {
            if (gate.function == f) {
                cubes.add(gate.cube);
            }
        }
        return cubes;
    }

    private int harmOf(int f, Arc arc) {
        int harm = 0;
        int[] table = table(f);
        List<int[]> gates = gatesOf(f);
        for (int[] gate : gates) {
            for (int p = 0; p < 64; p++) {
                boolean there = has(burst(arc), p) || has(turn(arc), p);
                if (there && has(gate, p) && table[p] == 0) {
                    harm |= 1;
                }
            }
            if (fallsBy(f, arc) && meets(gate, burst(arc)) && !has(gate, point(arc.from, m.codes.get(arc.from)))) {
                harm |= 4;
            }
        }
        for (int r : requiredBy(f, arc)) {
            if (gates.stream().noneMatch(gate -> within(cube(r), gate))) {
                harm |= 2;
            }
        }
        return harm;
    }

    int harm(int f, int arc) {
        if (m == null || f < 0 || f > 4 || !arcThere(arc)) {
            return no(1);
        }
        return bad != 0 ? no(5) : yes(harmOf(f, m.arcs.get(arc)));
    }

    int glitch(int f) {
        int why = functionTrouble(f);
        if (why != 0) {
            return no(why);
        }
        for (int i = 0; i < m.arcs.size(); i++) {
            if (harmOf(f, m.arcs.get(i)) != 0) {
                return yes(i);
            }
        }
        return yes(-2);
    }

    private List<int[]> products(int f, boolean gates) {
        if (gates) {
            return gatesOf(f);
        }
        List<int[]> cubes = new ArrayList<>();
        for (int p : found(f)[0]) {
            cubes.add(cube(found(f)[2][p]));
        }
        return cubes;
    }

    private static int runOf(List<int[]> products, int[] letters) {
        boolean one = false;
        boolean unknown = false;
        for (int[] product : products) {
            int value = 1;
            for (int i = 0; i < 6; i++) {
                if (product[i] != 2 && letters[i] == 2 && value == 1) {
                    value = 2;
                }
                if (product[i] != 2 && letters[i] != 2 && letters[i] != product[i]) {
                    value = 0;
                }
            }
            one = one || value == 1;
            unknown = unknown || value == 2;
        }
        return one ? 1 : unknown ? 2 : 0;
    }

    int run(int f, int cube, boolean gates) {
        int why = gates ? functionTrouble(f) : fewestTrouble(f);
        if (why != 0) {
            return no(why);
        }
        return cube < 0 || cube > 728 ? no(2) : yes(runOf(products(f, gates), cube(cube)));
    }

    int runBurst(int f, int arc, boolean gates) {
        if (m == null || f < 0 || f > 4 || !arcThere(arc)) {
            return no(1);
        }
        int why = gates ? functionTrouble(f) : fewestTrouble(f);
        return why != 0 ? no(why) : yes(runOf(products(f, gates), burst(m.arcs.get(arc))));
    }

    private List<Integer> codesBehind(int arc) {
        List<Integer> codes = new ArrayList<>();
        Arc it = m.arcs.get(arc);
        codes.add(m.codes.get(it.from));
        for (int round = 1; round <= 8; round++) {
            int[] letters = cubeAt(point(it.to, codes.get(codes.size() - 1)));
            codes.add(runOf(products(3, false), letters) + 2 * runOf(products(4, false), letters));
        }
        return codes;
    }

    private int feedbackTrouble(int arc) {
        if (!arcThere(arc)) {
            return 1;
        }
        return bad != 0 || found(3)[0] == null || found(4)[0] == null ? 5 : 0;
    }

    int settles(int arc) {
        int why = feedbackTrouble(arc);
        if (why != 0) {
            return no(why);
        }
        List<Integer> codes = codesBehind(arc);
        for (int i = 0; i < 8; i++) {
            if (codes.get(i).equals(codes.get(i + 1))) {
                return yes(i);
            }
        }
        return yes(-2);
    }

    int settled(int arc) {
        int why = feedbackTrouble(arc);
        return why != 0 ? no(why) : yes(codesBehind(arc).get(8));
    }

    // ---- the walk

    int push(int input) {
        if (m == null) {
            return no(1);
        }
        if (bad != 0) {
            return no(5);
        }
        if (input < 0 || input > 3) {
            return no(2);
        }
        String letter = "abcd".substring(input, input + 1);
        if (changed.contains(letter)) {
            return no(5);
        }
        boolean among = false;
        for (Arc arc : m.arcs) {
            among = among || arc.from == walkState && without(changed + letter, arc.inputs()).isEmpty();
        }
        if (!among) {
            return no(5);
        }
        changed += letter;
        for (Arc arc : m.arcs) {
            if (arc.from == walkState && without(arc.inputs(), changed).isEmpty()) {
                walkState = arc.to;
                changed = "";
                return yes(walkState);
            }
        }
        return yes(walkState);
    }

    private int inputsNow() {
        return bits(inputs[walkState], "abcd") ^ bits(changed, "abcd");
    }

    int walk(int what) {
        if (m == null || what < 0 || what > 3) {
            return no(1);
        }
        if (bad != 0) {
            return no(5);
        }
        int[] all = {walkState, inputsNow(), bits(outputs[walkState], "pqr"), bits(changed, "abcd")};
        return yes(all[what]);
    }

    int shown() {
        if (m == null) {
            return no(1);
        }
        if (bad != 0) {
            return no(5);
        }
        int bits = 0;
        for (int f = 0; f < 5; f++) {
            if (found(f)[0] == null) {
                return yes(-2);
            }
            bits += runOf(products(f, false), cubeAt(inputsNow() + 16 * m.codes.get(walkState))) << f;
        }
        return yes(bits);
    }

    // ---- codes

    private List<List<Integer>> allCodings(int n) {
        List<List<Integer>> good = new ArrayList<>();
        int states = m.codes.size();
        int ways = 1;
        for (int i = 0; i < states; i++) {
            ways *= n;
        }
        for (int way = 0; way < ways; way++) {
            Integer[] codes = new Integer[states];
            int rest = way;
            for (int i = states - 1; i >= 0; i--) {
                codes[i] = rest % n;
                rest /= n;
            }
            if (judgeCodes(Arrays.asList(codes))[0] == 0) {
                good.add(Arrays.asList(codes));
            }
        }
        return good;
    }

    int codings(int n) {
        if (m == null) {
            return no(1);
        }
        if (bad >= 1 && bad <= 4) {
            return no(5);
        }
        return n < 1 || n > 4 ? no(2) : yes(allCodings(n).size());
    }

    int coding(int n, int state) {
        if (m == null || state < 0 || state >= m.codes.size()) {
            return no(1);
        }
        if (bad >= 1 && bad <= 4) {
            return no(5);
        }
        if (n < 1 || n > 4) {
            return no(2);
        }
        List<List<Integer>> all = allCodings(n);
        return all.isEmpty() ? no(1) : yes(all.get(0).get(state));
    }

    // ---- acts

    private void keep() {
        before.add(m.copy());
        if (before.size() > 12) {
            before.remove(0);
        }
    }

    int recode(int state, int code) {
        if (m == null || state < 0 || state >= m.codes.size()) {
            return no(1);
        }
        if (code < 0 || code > 3) {
            return no(2);
        }
        keep();
        int had = m.codes.set(state, code);
        anew();
        return yes(had);
    }

    int strike(int arc) {
        if (!arcThere(arc)) {
            return no(1);
        }
        keep();
        m.arcs.remove(arc);
        anew();
        return yes(m.arcs.size());
    }

    int add(int f, int cube) {
        if (m == null || f < 0 || f > 4) {
            return no(1);
        }
        if (cube < 0 || cube > 728) {
            return no(2);
        }
        if (m.gates.size() == 16) {
            return no(3);
        }
        keep();
        Gate gate = new Gate();
        gate.function = f;
        gate.cube = cube(cube);
        m.gates.add(gate);
        anew();
        return yes(m.gates.size());
    }

    boolean undo() {
        if (before.isEmpty()) {
            trouble = 1;
            return false;
        }
        m = before.remove(before.size() - 1);
        anew();
        trouble = 0;
        return true;
    }

    // ---- what is told

    int last(int i) {
        List<Integer> all = new ArrayList<>();
        for (int s = 0; m != null && s < m.codes.size(); s++) {
            int state = s;
            if (m.arcs.stream().noneMatch(arc -> arc.from == state)) {
                all.add(s);
            }
        }
        if (i < 0 || i >= all.size()) {
            throw new NoSuchElementException();
        }
        return all.get(i);
    }

    int size(int what) {
        if (what == 4) {
            return tape.length();
        }
        if (what < 0 || what > 5) {
            return -1;
        }
        if (m == null) {
            return 0;
        }
        int[] all = {m.codes.size(), m.arcs.size(), m.gates.size(), before.size(), 0, m.begin};
        return all[what];
    }

    int trouble() {
        return trouble;
    }
}
