/** Boundary cases of the Terms I and III: numbers of letters, POINTS and CUBES; what FUNCTIONS have to be. */
final class TermBounds {
    private static final int P = 0;
    private static final int S = 3;
    private static final int T = 4;

    private TermBounds() {
    }

    static void all() {
        constant();
        letters();
        points();
        cubes();
        demands();
        turns();
        required();
        primes();
    }

    private static void constant() {
        Bounds.ofRest("`NONE = -1`: There is none; refused.", due -> due.is("NONE", BurstDesk.NONE, -1));
    }

    // ---- Terms I

    private static void letters() {
        Bounds.ofTerm("I", "LETTERS: a, b, c, d (INPUTS, numbers 0 .. 3), s, t (BITS of a CODE, 4, 5); OUTPUTS p, q, r.", due -> {
            for (int input = 0; input < 4; input++) {
                BurstDesk desk = Desks.of("state 0;state 0;state 0;state 0;state 0;begin 0 /;arc 0 1 a+ / p+;arc 0 2 b+ / q+;"
                        + "arc 0 3 c+ / r+;arc 0 4 d+ /");
                due.told(desk, "push(" + input + ")", desk.push(input), input + 1);
                due.told(desk, "INPUTS behind it", desk.walk(1), 1 << input);
                due.told(desk, "OUTPUTS behind it", desk.walk(2), input == 3 ? 0 : 1 << input);
            }
            // s and t are no INPUTS.
            BurstDesk desk = Desks.of(Desks.RING);
            due.no(desk, "push(4)", desk.push(4), 2);
            due.no(desk, "push(5)", desk.push(5), 2);
        });
        Bounds.ofTerm("I", "FUNCTIONS 0 .. 4: p, q, r, s, t.", due -> {
            BurstDesk desk = Desks.of("state 0;begin 0 /;gate p;gate q;gate r;gate s;gate t");
            for (int f = 0; f < 5; f++) {
                due.told(desk, "gate(" + f + ", 0)", desk.gate(f, 0), f);
            }
            due.no(desk, "add(5, 0)", desk.add(5, 0), 1);
            due.no(desk, "add(-1, 0)", desk.add(-1, 0), 1);
            due.told(desk, "add(4, 0)", desk.add(4, 0), 6);
            due.told(desk, "add(0, 0)", desk.add(0, 0), 7);
        });
    }

    private static void points() {
        Bounds.ofTerm("I", "A POINT: what a .. t are, 0 or 1 each, as bits (a 1, b 2, c 4, d 8, s 16, t 32)", due -> {
            String[] begins = {"state 0;begin 0 / p", "state 0;begin 0 a / p", "state 0;begin 0 b / p", "state 0;begin 0 c / p",
                "state 0;begin 0 d / p", "state 1;begin 0 / p", "state 2;begin 0 / p", "state 3;begin 0 a b c d / p"};
            int[] points = {0, 1, 2, 4, 8, 16, 32, 63};
            for (int i = 0; i < begins.length; i++) {
                BurstDesk desk = Desks.of(begins[i]);
                for (int point : points) {
                    due.told(desk, "at(0, " + point + ") of " + begins[i], desk.at(P, point), point == points[i] ? 1 : 2);
                }
                due.told(desk, "points(0, 1)", desk.points(P, 1), 1);
            }
        });
        Bounds.ofTerm("I", "a CODE: s 1, t 2.", due -> {
            for (int code = 0; code < 4; code++) {
                BurstDesk desk = Desks.of("state " + code + ";begin 0 /");
                due.told(desk, "s of CODE " + code, desk.at(S, 16 * code), code & 1);
                due.told(desk, "t of CODE " + code, desk.at(T, 16 * code), code >> 1);
            }
        });
    }

    private static void cubes() {
        Bounds.ofTerm("I", "A CUBE: POINTS of which each LETTER must be 0, must be 1, or may be any; its number has a digit 0, 1, 2 "
                + "for each, to the base of 3, that of a the highest (0 .. 728).", due -> {
            String[] gates = {"a'b'c'd's't'", "a'b'c'd's't", "a'b'c'd's'", "a b'c'd's't'", "b'c'd's't'", "a b c d s t", "", "t'",
                "t", "a'", "a"};
            int[] numbers = {0, 1, 2, 243, 486, 364, 728, 726, 727, 242, 485};
            StringBuilder text = new StringBuilder("state 0;begin 0 /");
            for (String gate : gates) {
                text.append(";gate p ").append(gate);
            }
            BurstDesk desk = Desks.of(text.toString());
            for (int i = 0; i < gates.length; i++) {
                due.told(desk, "the CUBE of " + gates[i], desk.gate(i, 1), numbers[i]);
            }
            // A POINT is a CUBE, and so are all of them.
            BurstDesk alone = Desks.of("state 0;begin 0 /");
            due.told(alone, "the POINT of the STATE", alone.safe(P, 0), 0);
            due.told(alone, "the POINT beside it by t", alone.safe(P, 1), 1);
            due.told(alone, "both of them", alone.safe(P, 2), 0);
            due.told(alone, "all POINTS", alone.safe(P, 728), 0);
            due.told(alone, "all POINTS but those without t", alone.safe(P, 727), 1);
        });
    }

    // ---- Terms III: what FUNCTIONS have to be

    private static void demands() {
        Bounds.ofTerm("III", "What FUNCTIONS have to be: an OUTPUT what it is there, s and t what the CODE has: at the POINT of "
                + "each STATE: so.", due -> {
            BurstDesk desk = Desks.of("state 2;begin 0 a d / p r");
            int[] values = {1, 0, 1, 0, 1};
            for (int f = 0; f < 5; f++) {
                due.told(desk, "at(" + f + ", 41)", desk.at(f, 41), values[f]);
                due.told(desk, "either", desk.points(f, 2), 63);
            }
        });
        Bounds.ofTerm("III", "By an ARC: its BURST: POINTS from that of from on, INPUTS of it changed or not, CODE that of from: as "
                + "it is in from, but where all are changed: as it is in to.", due -> {
            // From a c to b d: all 16 POINTS of CODE 0, and only at b d is it as in to.
            BurstDesk four = Desks.of("state 0;state 1;begin 0 a c /;arc 0 1 a- b+ c- d+ / p+");
            for (int point = 0; point < 16; point++) {
                due.told(four, "p at " + point, four.at(P, point), point == 10 ? 1 : 0);
                due.told(four, "s at " + point, four.at(S, point), point == 10 ? 1 : 0);
                due.told(four, "t at " + point, four.at(T, point), 0);
            }
            due.told(four, "either: all but these and the end of the TURN", four.points(P, 2), 47);
            // One INPUT: from and to alone.
            BurstDesk one = Desks.of("state 2;state 2;begin 0 /;arc 0 1 c+ / p+");
            due.told(one, "from", one.at(P, 32), 0);
            due.told(one, "to", one.at(P, 36), 1);
            due.told(one, "either", one.points(P, 2), 62);
        });
        Bounds.ofTerm("III", "(At all other POINTS: either.)", due -> {
            BurstDesk both = Desks.of(Desks.BOTH);
            for (int point = 0; point < 64; point++) {
                boolean known = (point & ~19) == 0;
                due.told(both, "q at " + point, both.at(1, point), known ? 0 : 2);
            }
            BurstDesk ring = Desks.of(Desks.RING);
            for (int f = 0; f < 5; f++) {
                due.told(ring, "no other POINT is left, " + f, ring.points(f, 2), 0);
            }
        });
    }

    private static void turns() {
        Bounds.ofTerm("III", "Its TURN: INPUTS of to, BITS in which both CODES are unlike either way, those in which they are alike "
                + "so: as it is in to.", due -> {
            // By CODES of from and to: at which CODES p has to be 1 at a, as bits.
            int[][] rows = {{0, 0, 1}, {0, 1, 3}, {0, 2, 5}, {0, 3, 15}, {1, 2, 15}, {1, 3, 10}, {2, 1, 15}, {2, 3, 12}, {3, 0, 15},
                {3, 3, 8}};
            for (int[] row : rows) {
                BurstDesk desk = Desks.of("state " + row[0] + ";state " + row[1] + ";begin 0 /;arc 0 1 a+ / p+");
                for (int code = 0; code < 4; code++) {
                    boolean in = (row[2] >> code & 1) != 0;
                    String where = " at CODE " + code + ", from " + row[0] + " to " + row[1];
                    due.told(desk, "p" + where, desk.at(P, 1 + 16 * code), in ? 1 : 2);
                    due.told(desk, "s" + where, desk.at(S, 1 + 16 * code), in ? row[1] & 1 : 2);
                    due.told(desk, "t" + where, desk.at(T, 1 + 16 * code), in ? row[1] >> 1 : 2);
                }
                due.told(desk, "p in from", desk.at(P, 16 * row[0]), 0);
            }
        });
    }

    private static void required() {
        Bounds.ofTerm("III", "ARC by ARC, if it is 1 in both: the BURST;", due -> {
            BurstDesk desk = Desks.of("state 0;state 0;begin 0 b / p;arc 0 1 a+ b- c+ d+ /");
            due.told(desk, "required(0)", desk.required(P), 3);
            due.told(desk, "the BURST of all INPUTS", desk.requiredCube(P, 0), Texts.cube("----00"));
            due.told(desk, "none of a FUNCTION that is 0 in both", desk.required(1), 0);
        });
        Bounds.ofTerm("III", "; then, if it is 1 in to: the TURN;", due -> {
            BurstDesk desk = Desks.of("state 1;state 2;begin 0 b / p;arc 0 1 a+ b- c+ d+ / q+");
            due.told(desk, "behind the BURST", desk.requiredCube(P, 1), Texts.cube("1011--"));
            due.told(desk, "it rises: the TURN alone", desk.requiredCube(1, 0), Texts.cube("1011--"));
            due.told(desk, "required(1)", desk.required(1), 1);
            due.told(desk, "t rises, too", desk.requiredCube(T, 0), Texts.cube("1011--"));
            // It falls: no TURN.
            due.told(desk, "required(3)", desk.required(S), 5);
            due.told(desk, "the last is the POINT of begin", desk.requiredCube(S, 4), Texts.cube("010010"));
        });
    }

    private static void primes() {
        Bounds.ofTerm("III", "PRIMES: SAFE CUBES that lie within no other SAFE one; numbered from 0 by their numbers as CUBES.",
                due -> {
            BurstDesk alone = Desks.of(Desks.ALONE);
            due.told(alone, "all POINTS: no other one", alone.primes(P), 1);
            BurstDesk ring = Desks.of(Desks.RING);
            due.told(ring, "no SAFE one at all", ring.primes(P), 0);
            String[] rows = {"0-----", "-0----", "--1---", "---1--", "----1-", "-----1"};
            BurstDesk fall = Desks.of(Desks.FALL);
            due.told(fall, "primes(0)", fall.primes(P), 6);
            for (int i = 0; i < 6; i++) {
                due.told(fall, "prime(0, " + i + ")", fall.prime(P, i), Texts.cube(rows[i]));
            }
        });
        Bounds.ofTerm("III", "A COVER: PRIMES so that each REQUIRED CUBE lies within one.", due -> {
            // a's, b's, c's and abct' have all POINTS of ---010 together, but it lies within st' alone.
            BurstDesk five = Desks.of(Desks.RING_OF_THREE);
            due.told(five, "st' is one of them", five.chosen(S, 4), 5);
            due.told(five, "fewest(3)", five.fewest(S), 5);
            BurstDesk none = Desks.of(Desks.BOTH);
            due.told(none, "nothing REQUIRED: no PRIME", none.fewest(T), 0);
        });
    }
}
