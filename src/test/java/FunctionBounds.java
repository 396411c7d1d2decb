/** Boundary cases of promises 11 to 25: what is found of one FUNCTION. */
final class FunctionBounds {
    private static final int P = 0;
    private static final int Q = 1;
    private static final int R = 2;
    private static final int S = 3;
    private static final int T = 4;

    private FunctionBounds() {
    }

    static void all() {
        group();
        at();
        points();
        required();
        requiredCube();
        falls();
        safe();
        primes();
        prime();
        needed();
        lacking();
        fewest();
        chosen();
        literals();
        formula();
        sign();
        spelling();
    }

    /** No such FUNCTION, no MACHINE: 1, whatever else is wrong. */
    static void noFunction(Bounds due, Bounds.Ask call) {
        BurstDesk desk = Desks.of(Desks.BOTH);
        due.noneOutside(desk, "FUNCTION", 5, 1, call);
        for (int number = 1; number <= 6; number++) {
            due.noneOutside(Desks.bad(number), "FUNCTION, BAD by " + number, 5, 1, call);
        }
        for (int f = 0; f < 5; f++) {
            BurstDesk empty = new BurstDesk();
            due.no(empty, "FUNCTION " + f + " without a MACHINE", call.of(empty, f), 1);
        }
    }

    /** Something is BAD: 5 for each FUNCTION. */
    static void somethingBad(Bounds due, Bounds.Ask call) {
        for (int number = 1; number <= 6; number++) {
            BurstDesk desk = Desks.bad(number);
            for (int f = 0; f < 5; f++) {
                due.no(desk, "FUNCTION " + f + ", BAD by " + number, call.of(desk, f), 5);
            }
        }
    }

    /** The least and the greatest FUNCTION, and all between, aren't refused. */
    private static void allFunctions(Bounds due, String text, Bounds.Ask call, int... answers) {
        BurstDesk desk = Desks.of(text);
        for (int f = 0; f < 5; f++) {
            due.told(desk, "FUNCTION " + f, call.of(desk, f), answers[f]);
        }
    }

    /** No FEWEST: no COVER, or none of five PRIMES at most. */
    static void noFewest(Bounds due, Bounds.Ask call) {
        BurstDesk lacking = Desks.of(Desks.LACKING);
        due.no(lacking, "p without a COVER", call.of(lacking, P), 5);
        BurstDesk lackingS = Desks.of(Desks.LACKING_S);
        due.no(lackingS, "s without a COVER", call.of(lackingS, S), 5);
        BurstDesk six = Desks.of(Desks.RING);
        due.no(six, "s of six PRIMES", call.of(six, S), 5);
        due.no(six, "t of six PRIMES", call.of(six, T), 5);
        due.noneOutside(six, "FUNCTION ahead of it", 5, 1, call);
    }

    private static void group() {
        Bounds.ofRest("functions: 1 no such FUNCTION, or no MACHINE; then 5 (something is BAD).", due -> {
            Bounds.Ask[] calls = {(d, f) -> d.at(f, 0), (d, f) -> d.points(f, 0), (d, f) -> d.required(f),
                (d, f) -> d.requiredCube(f, 0), (d, f) -> d.falls(f), (d, f) -> d.safe(f, 0), (d, f) -> d.primes(f),
                (d, f) -> d.prime(f, 0), (d, f) -> d.needed(f), (d, f) -> d.lacking(f), (d, f) -> d.fewest(f),
                (d, f) -> d.chosen(f, 0), (d, f) -> d.literals(f), (d, f) -> d.formula(f), (d, f) -> d.sign(f, 0)};
            for (Bounds.Ask call : calls) {
                noFunction(due, call);
                somethingBad(due, call);
            }
        });
    }

    // ---- 11

    private static void at() {
        Bounds.of(11, "What a FUNCTION has to be at a POINT: 0, 1, 2 either.", due -> {
            allFunctions(due, Desks.RING, (d, f) -> d.at(f, 0), 0, 1, 0, 0, 0);
            allFunctions(due, Desks.RING, (d, f) -> d.at(f, 63), 0, 1, 0, 0, 1);
            allFunctions(due, Desks.ALONE, (d, f) -> d.at(f, 48), 1, 0, 0, 1, 1);
            allFunctions(due, Desks.ALONE, (d, f) -> d.at(f, 0), 2, 2, 2, 2, 2);
            allFunctions(due, Desks.ALONE, (d, f) -> d.at(f, 63), 2, 2, 2, 2, 2);
            BurstDesk both = Desks.of(Desks.BOTH);
            due.told(both, "p within the BURST", both.at(P, 1), 0);
            due.told(both, "p at its end", both.at(P, 3), 1);
            due.told(both, "p at the TURN's end", both.at(P, 19), 1);
        });
        Bounds.of(11, "NONE: 1 (f)", due -> noFunction(due, (d, f) -> d.at(f, 64)));
        Bounds.of(11, "NONE: 1 (f); 5;", due -> somethingBad(due, (d, f) -> d.at(f, 64)));
        Bounds.of(11, "2 (a POINT: 0 .. 63).", due -> {
            BurstDesk desk = Desks.of(Desks.RING);
            for (int f = 0; f < 5; f++) {
                int function = f;
                due.noneOutside(desk, "POINT of FUNCTION " + f, 64, 2, (d, point) -> d.at(function, point));
            }
            for (int point = 0; point < 64; point++) {
                due.told(desk, "at(1, " + point + ")", desk.at(Q, point), 1);
            }
        });
    }

    // ---- 12

    private static void points() {
        Bounds.of(12, "At how many POINTS it has to be v (0, 1; 2: either).", due -> {
            allFunctions(due, Desks.RING, (d, f) -> d.points(f, 0), 64, 0, 64, 32, 32);
            allFunctions(due, Desks.RING, (d, f) -> d.points(f, 1), 0, 64, 0, 32, 32);
            allFunctions(due, Desks.RING, (d, f) -> d.points(f, 2), 0, 0, 0, 0, 0);
            allFunctions(due, Desks.ALONE, (d, f) -> d.points(f, 0), 0, 1, 1, 0, 0);
            allFunctions(due, Desks.ALONE, (d, f) -> d.points(f, 1), 1, 0, 0, 1, 1);
            allFunctions(due, Desks.ALONE, (d, f) -> d.points(f, 2), 63, 63, 63, 63, 63);
        });
        Bounds.of(12, "NONE: 1 (f)", due -> noFunction(due, (d, f) -> d.points(f, 3)));
        Bounds.of(12, "NONE: 1 (f); 5;", due -> somethingBad(due, (d, f) -> d.points(f, 3)));
        Bounds.of(12, "5; 2.", due -> {
            BurstDesk desk = Desks.of(Desks.BOTH);
            for (int f = 0; f < 5; f++) {
                int function = f;
                due.noneOutside(desk, "v of FUNCTION " + f, 3, 2, (d, v) -> d.points(function, v));
            }
        });
    }

    // ---- 13, 14

    private static void required() {
        Bounds.of(13, "How many REQUIRED CUBES.", due -> {
            allFunctions(due, Desks.RING, (d, f) -> d.required(f), 0, 9, 0, 7, 7);
            allFunctions(due, Desks.ALONE, (d, f) -> d.required(f), 1, 0, 0, 1, 1);
            allFunctions(due, Desks.BOTH, (d, f) -> d.required(f), 3, 0, 0, 3, 0);
            allFunctions(due, Desks.FALL, (d, f) -> d.required(f), 3, 0, 0, 0, 0);
        });
        Bounds.of(13, "NONE: 1", due -> noFunction(due, (d, f) -> d.required(f)));
        Bounds.of(13, "NONE: 1; 5.", due -> somethingBad(due, (d, f) -> d.required(f)));
        Bounds.ofTerm("III", "REQUIRED CUBES of a FUNCTION (each CUBE once, numbered from 0)", due -> {
            // TURNS of ARC 0 and ARC 2 are one CUBE; so are the end of the last TURN and the POINT of begin.
            cubes(due, "state 0;state 0;state 0;begin 0 /;arc 0 1 a+ / p+;arc 1 2 b+ /;arc 2 1 b- /", P,
                    "100000", "1-0000", "110000");
            cubes(due, "state 0;state 0;begin 0 / q;arc 0 1 a+ /;arc 1 0 a- /", Q, "-00000", "100000", "000000");
        });
        Bounds.ofTerm("III", "if it falls from 1 to 0: for each INPUT that changes, as numbered, the BURST with that one as "
                + "it was", due -> {
            // One INPUT: the POINT of from; four of them, told in another order: by their numbers.
            cubes(due, "state 0;state 0;begin 0 d / p;arc 0 1 d- / p-", P, "000100");
            cubes(due, "state 0;state 0;begin 0 b / p;arc 0 1 d+ c+ b- a+ / p-", P, "0---00", "-1--00", "--0-00", "---000",
                    "010000");
            // It rises: the TURN alone.
            cubes(due, "state 0;state 1;begin 0 /;arc 0 1 d+ c+ b+ a+ / p+", P, "1111-0");
        });
        Bounds.ofTerm("III", "behind all ARCS, if it is 1 in the STATE of begin: its POINT.", due -> {
            cubes(due, Desks.ALONE, P, "000011");
            cubes(due, Desks.ALONE, Q);
            cubes(due, "state 0;state 0;begin 1 a b c d / p;arc 1 0 a- /", P, "-11100", "011100", "111100");
        });
    }

    private static void cubes(Bounds due, String text, int f, String... cubes) {
        BurstDesk desk = Desks.of(text);
        due.told(desk, "required(" + f + ") of " + text, desk.required(f), cubes.length);
        for (int i = 0; i < cubes.length; i++) {
            due.told(desk, "requiredCube(" + f + ", " + i + ") of " + text, desk.requiredCube(f, i), Texts.cube(cubes[i]));
        }
        due.no(desk, "the next one", desk.requiredCube(f, cubes.length), 1);
    }

    private static void requiredCube() {
        Bounds.of(14, "The i-th.", due -> {
            cubes(due, Desks.RING, Q, "----00", "1111-0", "----10", "00001-", "----11", "1111-1", "----01", "00000-",
                    "000000");
            cubes(due, Desks.RING, S, "1111-0", "----10", "00001-", "0---11", "-0--11", "--0-11", "---011");
            cubes(due, Desks.ALONE, T, "000011");
        });
        Bounds.of(14, "NONE: 1 (f)", due -> noFunction(due, (d, f) -> d.requiredCube(f, 99)));
        Bounds.of(14, "NONE: 1 (f); 5;", due -> somethingBad(due, (d, f) -> d.requiredCube(f, 99)));
        Bounds.of(14, "5; 1 (i).", due -> {
            due.noneOutside(Desks.of(Desks.BOTH), "i of three", 3, 1, (d, i) -> d.requiredCube(P, i));
            due.noneOutside(Desks.of(Desks.BOTH), "i of none", 0, 1, (d, i) -> d.requiredCube(T, i));
            due.noneOutside(Desks.of(Desks.RING), "i of nine", 9, 1, (d, i) -> d.requiredCube(Q, i));
        });
    }

    // ---- 15

    private static void falls() {
        Bounds.of(15, "By how many ARCS it falls.", due -> {
            allFunctions(due, Desks.RING, (d, f) -> d.falls(f), 0, 0, 0, 1, 1);
            allFunctions(due, Desks.ALONE, (d, f) -> d.falls(f), 0, 0, 0, 0, 0);
            allFunctions(due, Desks.FULL, (d, f) -> d.falls(f), 2, 0, 0, 0, 0);
            // By all of four ARCS from one STATE.
            allFunctions(due, "state 0;state 0;state 0;state 0;state 0;begin 0 / r;arc 0 1 a+ / r-;arc 0 2 b+ / r-;"
                    + "arc 0 3 c+ / r-;arc 0 4 d+ / r-", (d, f) -> d.falls(f), 0, 0, 4, 0, 0);
        });
        Bounds.of(15, "NONE: 1", due -> noFunction(due, (d, f) -> d.falls(f)));
        Bounds.of(15, "NONE: 1; 5.", due -> somethingBad(due, (d, f) -> d.falls(f)));
    }

    // ---- 16

    private static void safe() {
        Bounds.of(16, "1 if a CUBE is SAFE, 0.", due -> {
            allFunctions(due, Desks.RING, (d, f) -> d.safe(f, 0), 0, 1, 0, 0, 0);
            allFunctions(due, Desks.RING, (d, f) -> d.safe(f, 728), 0, 1, 0, 0, 0);
            allFunctions(due, Desks.ALONE, (d, f) -> d.safe(f, 728), 1, 0, 0, 1, 1);
            allFunctions(due, Desks.ALONE, (d, f) -> d.safe(f, 0), 1, 1, 1, 1, 1);
        });
        Bounds.ofTerm("III", "A CUBE is SAFE, if no POINT of it is one at which the FUNCTION has to be 0, and for each ARC by "
                + "which it falls: if the CUBE has some POINT of the BURST, it has that of from.", due -> {
            BurstDesk desk = Desks.of(Desks.FALL);
            String[] cubes = {"000000", "0-0000", "-00000", "--0000", "100000", "010000", "110000", "10----", "00----",
                "--1---", "1-1---", "0-----"};
            int[] due01 = {1, 1, 1, 0, 0, 0, 0, 0, 1, 1, 1, 1};
            for (int i = 0; i < cubes.length; i++) {
                due.told(desk, "safe(0, " + cubes[i] + ")", desk.safe(P, Texts.cube(cubes[i])), due01[i]);
            }
            // Each of two ARCS counts.
            BurstDesk two = Desks.of("state 0;state 0;state 0;begin 0 / p;arc 0 1 a+ b+ / p-;arc 0 2 c+ d+ / p-");
            due.told(two, "within the first BURST", two.safe(P, Texts.cube("100000")), 0);
            due.told(two, "within the second BURST", two.safe(P, Texts.cube("001000")), 0);
            due.told(two, "with the beginning of both", two.safe(P, Texts.cube("0--000")), 1);
            due.told(two, "without a POINT of either", two.safe(P, Texts.cube("1-1---")), 1);
        });
        Bounds.of(16, "NONE: 1 (f)", due -> noFunction(due, (d, f) -> d.safe(f, 729)));
        Bounds.of(16, "NONE: 1 (f); 5;", due -> somethingBad(due, (d, f) -> d.safe(f, 729)));
        Bounds.of(16, "5; 2 (a CUBE).", due -> {
            BurstDesk desk = Desks.of(Desks.BOTH);
            for (int f = 0; f < 5; f++) {
                int function = f;
                due.noneOutside(desk, "CUBE of FUNCTION " + f, 729, 2, (d, cube) -> d.safe(function, cube));
            }
        });
    }

    // ---- 17, 18

    private static void primes() {
        Bounds.of(17, "How many PRIMES.", due -> {
            allFunctions(due, Desks.RING, (d, f) -> d.primes(f), 0, 1, 0, 6, 6);
            allFunctions(due, Desks.ALONE, (d, f) -> d.primes(f), 1, 6, 6, 1, 1);
            allFunctions(due, Desks.BOTH, (d, f) -> d.primes(f), 6, 3, 3, 6, 3);
        });
        Bounds.of(17, "NONE: 1", due -> noFunction(due, (d, f) -> d.primes(f)));
        Bounds.of(17, "NONE: 1; 5.", due -> somethingBad(due, (d, f) -> d.primes(f)));
    }

    private static void prime() {
        Bounds.of(18, "The CUBE of the i-th.", due -> {
            String[] ofS = {"0---1-", "1111-0", "-0--1-", "--0-1-", "---01-", "----10"};
            BurstDesk ring = Desks.of(Desks.RING);
            for (int i = 0; i < 6; i++) {
                due.told(ring, "prime(3, " + i + ")", ring.prime(S, i), Texts.cube(ofS[i]));
            }
            due.told(ring, "prime(1, 0): all POINTS", ring.prime(Q, 0), 728);
            // Nothing but one POINT is 0: six CUBES of one LETTER each.
            String[] allBut = {"1-----", "-1----", "--1---", "---1--", "----0-", "-----0"};
            BurstDesk alone = Desks.of(Desks.ALONE);
            for (int i = 0; i < 6; i++) {
                due.told(alone, "prime(2, " + i + ")", alone.prime(R, i), Texts.cube(allBut[i]));
            }
        });
        Bounds.of(18, "NONE: 1 (f)", due -> noFunction(due, (d, f) -> d.prime(f, 999)));
        Bounds.of(18, "NONE: 1 (f); 5;", due -> somethingBad(due, (d, f) -> d.prime(f, 999)));
        Bounds.of(18, "5; 1 (i).", due -> {
            due.noneOutside(Desks.of(Desks.RING), "i of six", 6, 1, (d, i) -> d.prime(S, i));
            due.noneOutside(Desks.of(Desks.RING), "i of one", 1, 1, (d, i) -> d.prime(Q, i));
            due.noneOutside(Desks.of(Desks.RING), "i of none", 0, 1, (d, i) -> d.prime(P, i));
        });
    }

    // ---- 19, 20

    private static void needed() {
        Bounds.of(19, "How many PRIMES are the only one in which some REQUIRED CUBE lies.", due -> {
            allFunctions(due, Desks.RING, (d, f) -> d.needed(f), 0, 1, 0, 6, 6);
            allFunctions(due, Desks.RING_OF_THREE, (d, f) -> d.needed(f), 0, 0, 0, 5, 5);
            allFunctions(due, Desks.ALONE, (d, f) -> d.needed(f), 1, 0, 0, 1, 1);
            allFunctions(due, "state 0;state 0;begin 0 /;arc 0 1 a+ b+ / p+", (d, f) -> d.needed(f), 1, 0, 0, 0, 0);
            // Each REQUIRED CUBE of s lies in two PRIMES; that of q lies in a alone.
            allFunctions(due, Desks.TIES, (d, f) -> d.needed(f), 0, 1, 0, 0, 0);
        });
        Bounds.of(19, "NONE: 1", due -> noFunction(due, (d, f) -> d.needed(f)));
        Bounds.of(19, "NONE: 1; 5.", due -> somethingBad(due, (d, f) -> d.needed(f)));
    }

    private static void lacking() {
        Bounds.of(20, "The first REQUIRED CUBE (its number among them) that lies in no PRIME; -2.", due -> {
            allFunctions(due, Desks.LACKING, (d, f) -> d.lacking(f), 2, -2, -2, -2, -2);
            allFunctions(due, Desks.LACKING_S, (d, f) -> d.lacking(f), -2, -2, -2, 2, -2);
            allFunctions(due, Desks.LACKING_T, (d, f) -> d.lacking(f), -2, -2, -2, -2, 2);
            // The same ARCS in another order: it is the first of all.
            allFunctions(due, "state 1;state 0;state 0;state 2;begin 0 /;arc 0 1 b+ / p+;arc 1 2 b- /;arc 2 3 b+ d+ / p-",
                    (d, f) -> d.lacking(f), 0, -2, -2, -2, -2);
            allFunctions(due, Desks.RING, (d, f) -> d.lacking(f), -2, -2, -2, -2, -2);
            allFunctions(due, Desks.ALONE, (d, f) -> d.lacking(f), -2, -2, -2, -2, -2);
        });
        Bounds.of(20, "NONE: 1", due -> noFunction(due, (d, f) -> d.lacking(f)));
        Bounds.of(20, "NONE: 1; 5.", due -> somethingBad(due, (d, f) -> d.lacking(f)));
    }

    // ---- 21, 22

    private static void fewest() {
        Bounds.of(21, "How many PRIMES FEWEST has", due -> {
            allFunctions(due, Desks.ALONE, (d, f) -> d.fewest(f), 1, 0, 0, 1, 1);
            allFunctions(due, Desks.BOTH, (d, f) -> d.fewest(f), 3, 0, 0, 3, 0);
            allFunctions(due, Desks.RING_OF_THREE, (d, f) -> d.fewest(f), 0, 0, 0, 5, 5);
        });
        Bounds.of(21, "-2 without a COVER", due -> {
            allFunctions(due, Desks.LACKING, (d, f) -> d.fewest(f), -2, 0, 0, 1, 1);
            BurstDesk s = Desks.of(Desks.LACKING_S);
            due.told(s, "s", s.fewest(S), -2);
            due.told(s, "t", s.fewest(T), 0);
            BurstDesk t = Desks.of(Desks.LACKING_T);
            due.told(t, "s", t.fewest(S), 0);
            due.told(t, "t", t.fewest(T), -2);
        });
        Bounds.of(21, "6 if none has 5 at most", due -> {
            allFunctions(due, Desks.RING, (d, f) -> d.fewest(f), 0, 1, 0, 6, 6);
            BurstDesk five = Desks.of(Desks.RING_OF_THREE);
            due.told(five, "five are not too many", five.fewest(S), 5);
        });
        Bounds.ofTerm("III", "FEWEST: of all COVERS of 5 at most one of the fewest, of several that whose PRIMES, rising, are "
                + "the least row.", due -> {
            // 1001-0 lies in ab' and ad, 100-10 in ab' and b's, 1-0110 in ad and ds: two PRIMES are the fewest, and of
            // ab'+ad, ab'+ds, ad+b's the first row is the least. Of all PRIMES (a'b, a'd', a's, ab', ad, b'd's', b's, bds',
            // c, ds, t) these are the numbers 3 and 4.
            BurstDesk ties = Desks.of(Desks.TIES);
            due.told(ties, "primes(3)", ties.primes(S), 11);
            due.told(ties, "fewest(3)", ties.fewest(S), 2);
            due.told(ties, "chosen(3, 0)", ties.chosen(S, 0), 3);
            due.told(ties, "chosen(3, 1)", ties.chosen(S, 1), 4);
            due.is("its formula", Texts.formula(ties, S), "ab'+ad");
            // t is 0 at 001010 alone: PRIMES are a, b, c', d, s', t. Of what is REQUIRED 1010-- lies in a, 0010-1 in t, and
            // -01001 in s', too, which has a lower number than t but leaves 0010-1 open: it is in no COVER of two.
            BurstDesk between = Desks.of("state 1;state 2;state 3;begin 0 c /;arc 1 2 a- /;arc 0 1 a+ /");
            due.told(between, "primes(4)", between.primes(T), 6);
            due.told(between, "needed(4)", between.needed(T), 2);
            due.told(between, "fewest(4)", between.fewest(T), 2);
            due.told(between, "chosen(4, 0)", between.chosen(T, 0), 0);
            due.told(between, "chosen(4, 1)", between.chosen(T, 1), 5);
            due.is("its formula", Texts.formula(between, T), "a+t");
        });
        Bounds.ofTerm("III", "FEWEST: of all COVERS of 5 at most one of the fewest", due -> {
            // Made up and searched, not by hand: five of twelve to sixteen PRIMES, two of them needed by no REQUIRED CUBE
            // alone. PlainDesk, which tries all COVERS, answers the same.
            BurstDesk large = Desks.of(Desks.LARGE);
            int[][] rows = {{14}, {1, 3, 7, 12, 15}, {0, 2, 3, 5, 6}, {0, 2, 8, 11}, {1, 3, 7, 12, 15}};
            for (int f = 0; f < 5; f++) {
                due.told(large, "fewest(" + f + ")", large.fewest(f), rows[f].length);
                for (int i = 0; i < rows[f].length; i++) {
                    due.told(large, "chosen(" + f + ", " + i + ")", large.chosen(f, i), rows[f][i]);
                }
            }
        });
        Bounds.of(21, "NONE: 1", due -> noFunction(due, (d, f) -> d.fewest(f)));
        Bounds.of(21, "NONE: 1; 5.", due -> somethingBad(due, (d, f) -> d.fewest(f)));
    }

    private static void chosen() {
        Bounds.of(22, "The number of the i-th PRIME of it.", due -> {
            int[] row = {0, 1, 2, 3, 5};
            BurstDesk five = Desks.of(Desks.RING_OF_THREE);
            for (int i = 0; i < 5; i++) {
                due.told(five, "chosen(3, " + i + ")", five.chosen(S, i), row[i]);
            }
            BurstDesk ring = Desks.of(Desks.RING);
            due.told(ring, "chosen(1, 0)", ring.chosen(Q, 0), 0);
        });
        Bounds.of(22, "NONE: 1 (f)", due -> noFunction(due, (d, f) -> d.chosen(f, 99)));
        Bounds.of(22, "NONE: 1 (f); 5", due -> somethingBad(due, (d, f) -> d.chosen(f, 99)));
        Bounds.of(22, "(no FEWEST, too)", due -> {
            noFewest(due, (d, f) -> d.chosen(f, 0));
            noFewest(due, (d, f) -> d.chosen(f, -1));
            noFewest(due, (d, f) -> d.chosen(f, 5));
        });
        Bounds.of(22, "; 1 (i).", due -> {
            due.noneOutside(Desks.of(Desks.RING_OF_THREE), "i of five", 5, 1, (d, i) -> d.chosen(S, i));
            due.noneOutside(Desks.of(Desks.RING), "i of one", 1, 1, (d, i) -> d.chosen(Q, i));
            due.noneOutside(Desks.of(Desks.RING), "i of none", 0, 1, (d, i) -> d.chosen(P, i));
        });
    }

    // ---- 23 to 25

    private static void literals() {
        Bounds.of(23, "How many LETTERS must be 0 or 1 in all of its PRIMES together.", due -> {
            allFunctions(due, Desks.RING_OF_THREE, (d, f) -> d.literals(f), 0, 0, 0, 12, 12);
            allFunctions(due, Desks.ALONE, (d, f) -> d.literals(f), 0, 0, 0, 0, 0);
            allFunctions(due, Desks.BOTH, (d, f) -> d.literals(f), 6, 0, 0, 6, 0);
        });
        Bounds.of(23, "NONE: 1", due -> noFunction(due, (d, f) -> d.literals(f)));
        Bounds.of(23, "NONE: 1; 5", due -> somethingBad(due, (d, f) -> d.literals(f)));
        Bounds.of(23, "(no FEWEST, too).", due -> noFewest(due, (d, f) -> d.literals(f)));
    }

    private static void formula() {
        Bounds.of(24, "How many signs FORMULA has.", due -> {
            allFunctions(due, Desks.RING_OF_THREE, (d, f) -> d.formula(f), 1, 1, 1, 21, 19);
            allFunctions(due, Desks.ALONE, (d, f) -> d.formula(f), 1, 1, 1, 1, 1);
            allFunctions(due, Desks.BOTH, (d, f) -> d.formula(f), 8, 1, 1, 8, 1);
        });
        Bounds.of(24, "NONE: 1", due -> noFunction(due, (d, f) -> d.formula(f)));
        Bounds.of(24, "NONE: 1; 5", due -> somethingBad(due, (d, f) -> d.formula(f)));
        Bounds.of(24, "(no FEWEST, too).", due -> noFewest(due, (d, f) -> d.formula(f)));
    }

    private static void sign() {
        Bounds.of(25, "The i-th sign of it.", due -> {
            BurstDesk desk = Desks.of(Desks.RING_OF_THREE);
            String formula = "a's+abct'+b's+c's+st'";
            for (int i = 0; i < formula.length(); i++) {
                due.told(desk, "sign(3, " + i + ")", desk.sign(S, i), formula.charAt(i));
            }
        });
        Bounds.of(25, "NONE: 1 (f)", due -> noFunction(due, (d, f) -> d.sign(f, 999)));
        Bounds.of(25, "NONE: 1 (f); 5", due -> somethingBad(due, (d, f) -> d.sign(f, 999)));
        Bounds.of(25, "(no FEWEST, too)", due -> {
            noFewest(due, (d, f) -> d.sign(f, 0));
            noFewest(due, (d, f) -> d.sign(f, -1));
            noFewest(due, (d, f) -> d.sign(f, 999));
        });
        Bounds.of(25, "; 1 (i).", due -> {
            due.noneOutside(Desks.of(Desks.RING_OF_THREE), "i of 21", 21, 1, (d, i) -> d.sign(S, i));
            due.noneOutside(Desks.of(Desks.ALONE), "i of one, 1", 1, 1, (d, i) -> d.sign(P, i));
            due.noneOutside(Desks.of(Desks.ALONE), "i of one, 0", 1, 1, (d, i) -> d.sign(Q, i));
        });
    }

    private static void spelling() {
        Bounds.ofTerm("IV", "each the letters that must be 0 or 1, a .. t, with ' behind those that must be 0", due -> {
            // All POINTS beside 000000 are 0: it is a PRIME of itself, with the least number that there is.
            BurstDesk point = Desks.of(Desks.POINT);
            due.told(point, "required(0)", point.required(P), 1);
            due.told(point, "prime(0, 0)", point.prime(P, 0), 0);
            due.told(point, "chosen(0, 0)", point.chosen(P, 0), 0);
            due.told(point, "literals(0)", point.literals(P), 6);
            due.is("its formula", Texts.formula(point, P), "a'b'c'd's't'");
        });
        Bounds.ofTerm("IV", "(a CUBE of all: 1)", due -> {
            due.is("p of a STATE alone", Texts.formula(Desks.of(Desks.ALONE), P), "1");
            due.is("q of the ring, always 1", Texts.formula(Desks.of(Desks.RING), Q), "1");
        });
        Bounds.ofTerm("IV", ", + between them (no PRIMES: 0)", due -> {
            due.is("q of a STATE alone", Texts.formula(Desks.of(Desks.ALONE), Q), "0");
            due.is("one of them", Texts.formula(Desks.of(Desks.FULL), P), "a");
            due.is("two of them", Texts.formula(Desks.of(Desks.FALL), P), "a'+b'");
            // There are no PRIMES at all of it.
            due.is("p of the ring, never 1", Texts.formula(Desks.of(Desks.RING), P), "0");
        });
        Bounds.ofTerm("IV", "FORMULA of a FUNCTION, by FEWEST: its PRIMES as told there, each the letters that must be 0 or 1, "
                + "a .. t, with ' behind those that must be 0", due -> {
            due.is("t of the ring of three", Texts.formula(Desks.of(Desks.RING_OF_THREE), T), "a'b'c's+at+bt+ct+st");
            due.is("p of a fall", Texts.formula(Desks.of(Desks.FALL), P), "a'+b'");
        });
    }
}
