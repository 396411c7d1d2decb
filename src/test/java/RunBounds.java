/** Boundary cases of promises 26 to 31: HARM, RUNS, feedback. */
final class RunBounds {
    private static final int P = 0;
    private static final int Q = 1;
    private static final int R = 2;
    private static final int S = 3;
    private static final int T = 4;
    /** p is never 1; its BURST is -00000, its TURN 1000-0. s has to be 1 in that TURN. */
    private static final String TURNING = "state 0;state 1;begin 0 /;arc 0 1 a+ /";
    /** Eight ARCS, of which the last alone leads to the POINT of d. */
    private static final String EIGHT = "state 0;state 0;state 0;state 0;state 0;state 0;begin 0 /;arc 0 1 a+ /;"
            + "arc 1 2 b+ /;arc 2 3 a- /;arc 3 0 b- /;arc 0 3 b+ /;arc 1 0 a- /;arc 2 4 c+ /;arc 0 5 d+ /";

    private RunBounds() {
    }

    static void all() {
        harmParts();
        harm();
        glitch();
        runParts();
        run();
        runRefused();
        runBurst();
        settles();
        settled();
    }

    private static void harmIs(Bounds due, String text, int f, int arc, int harm) {
        BurstDesk desk = Desks.of(text);
        due.told(desk, "harm(" + f + ", " + arc + ") of " + text, desk.harm(f, arc), harm);
    }

    // ---- 26

    private static void harmParts() {
        Bounds.ofTerm("IV", "HARM of the gates of a FUNCTION by an ARC: 1: some gate has a POINT of its BURST or TURN at which it "
                + "has to be 0", due -> {
            harmIs(due, TURNING, P, 0, 0);
            harmIs(due, TURNING + ";gate p a'b'c'd's't'", P, 0, 1);
            harmIs(due, TURNING + ";gate p a b'c'd's't'", P, 0, 1);
            harmIs(due, TURNING + ";gate p a b'c'd's t'", P, 0, 1);
            harmIs(due, TURNING + ";gate p a'b'c'd's t'", P, 0, 0);
            harmIs(due, TURNING + ";gate p a b'c'd's t", P, 0, 0);
            harmIs(due, TURNING + ";gate p b", P, 0, 0);
            harmIs(due, TURNING + ";gate p", P, 0, 1);
            harmIs(due, TURNING + ";gate p b;gate p c;gate p d;gate p t;gate p s", P, 0, 1);
            // Another FUNCTION's gate does nothing.
            harmIs(due, TURNING + ";gate q", P, 0, 0);
            // A POINT of another ARC alone is no HARM by this one.
            harmIs(due, EIGHT + ";gate q d", Q, 0, 0);
            harmIs(due, EIGHT + ";gate q d", Q, 7, 1);
        });
        Bounds.ofTerm("IV", "2: a REQUIRED CUBE of that ARC lies within none", due -> {
            harmIs(due, TURNING, S, 0, 2);
            harmIs(due, TURNING + ";gate s a", S, 0, 0);
            harmIs(due, TURNING + ";gate s a b'c'd't'", S, 0, 0);
            harmIs(due, TURNING + ";gate s a b'c'd's't'", S, 0, 2);
            // Together they hold it, but none of them does.
            harmIs(due, TURNING + ";gate s a s;gate s a s'", S, 0, 2);
            harmIs(due, TURNING + ";gate t a", S, 0, 2);
            // The POINT of begin is of no ARC.
            harmIs(due, "state 0;state 0;state 0;begin 0 / p;arc 0 1 a+ / p-;arc 1 2 b+ /", P, 1, 0);
            // The first of two, the second of two.
            harmIs(due, Desks.FALL + ";gate p b'", P, 0, 2);
            harmIs(due, Desks.FALL + ";gate p a'", P, 0, 2);
            harmIs(due, Desks.FALL + ";gate p a';gate p b'", P, 0, 0);
            // One that an ARC ahead of it has, too.
            String again = "state 0;state 0;state 0;begin 0 /;arc 0 1 a+ / p+;arc 1 2 b+ /;arc 2 1 b- /";
            harmIs(due, again + ";gate p a b", P, 2, 2);
            harmIs(due, again + ";gate p a b'", P, 0, 0);
            harmIs(due, again + ";gate p a b'", P, 2, 2);
        });
        Bounds.ofTerm("IV", "4: it falls by it, and a gate has a POINT of the BURST, but not that of from.", due -> {
            harmIs(due, Desks.FALL + ";gate p a b'c'd's't'", P, 0, 6);
            harmIs(due, Desks.FALL + ";gate p a'b c'd's't'", P, 0, 6);
            harmIs(due, Desks.FALL + ";gate p a'b'c'd's't'", P, 0, 2);
            harmIs(due, Desks.FALL + ";gate p c", P, 0, 2);
            harmIs(due, Desks.FALL + ";gate p a';gate p b';gate p a b'", P, 0, 4);
            harmIs(due, Desks.FALL + ";gate p a';gate p b';gate p a c", P, 0, 0);
            harmIs(due, Desks.FALL + ";gate p a", P, 0, 7);
            harmIs(due, Desks.FALL + ";gate p", P, 0, 1);
            // It rises by it, or stays 1, or 0: not 4.
            harmIs(due, Desks.BOTH + ";gate p a b", P, 0, 0);
            harmIs(due, "state 0;state 0;begin 0 / p;arc 0 1 a+ /;gate p a;gate p", P, 0, 0);
            harmIs(due, TURNING + ";gate p a", P, 0, 1);
        });
    }

    private static void harm() {
        Bounds.of(26, "HARM.", due -> {
            BurstDesk full = Desks.of(Desks.FULL);
            int[][] rows = {{1, 0, 0, 0, 0}, {0, 0, 0, 0, 0}, {1, 0, 0, 0, 0}};
            int[] arcs = {0, 1, 7};
            for (int i = 0; i < 3; i++) {
                for (int f = 0; f < 5; f++) {
                    due.told(full, "harm(" + f + ", " + arcs[i] + ")", full.harm(f, arcs[i]), rows[i][f]);
                }
            }
        });
        Bounds.of(26, "NONE: 1 (f, an ARC)", due -> {
            FunctionBounds.noFunction(due, (d, f) -> d.harm(f, 0));
            for (int f = 0; f < 5; f++) {
                int function = f;
                due.noneOutside(Desks.of(Desks.BOTH), "ARC of two", 2, 1, (d, arc) -> d.harm(function, arc));
            }
            due.noneOutside(Desks.of(Desks.FULL), "ARC of eight", 8, 1, (d, arc) -> d.harm(P, arc));
            due.noneOutside(Desks.of(Desks.ALONE), "ARC of none", 0, 1, (d, arc) -> d.harm(P, arc));
            int[] arcs = {1, 2, 1, 2, 2, 2};
            for (int number = 1; number <= 6; number++) {
                due.noneOutside(Desks.bad(number), "ARC, BAD by " + number, arcs[number - 1], 1, (d, arc) -> d.harm(P, arc));
            }
        });
        Bounds.of(26, "NONE: 1 (f, an ARC); 5.", due -> FunctionBounds.somethingBad(due, (d, f) -> d.harm(f, 0)));
    }

    // ---- 27

    private static void glitch() {
        Bounds.of(27, "The first ARC by which there is HARM; -2.", due -> {
            String[] texts = {Desks.ALONE, Desks.BOTH, Desks.FULL, EIGHT + ";gate q d", Desks.BOTH + ";gate p a b",
                Desks.BOTH + ";gate p a b;gate p a s;gate p b s;gate t c"};
            int[][] rows = {{-2, -2, -2, -2, -2}, {0, -2, -2, 0, -2}, {0, -2, -2, -2, -2}, {-2, 7, -2, -2, -2},
                {1, -2, -2, 0, -2}, {-2, -2, -2, 0, -2}};
            for (int i = 0; i < texts.length; i++) {
                BurstDesk desk = Desks.of(texts[i]);
                for (int f = 0; f < 5; f++) {
                    due.told(desk, "glitch(" + f + ") of " + texts[i], desk.glitch(f), rows[i][f]);
                }
            }
        });
        Bounds.of(27, "NONE: 1", due -> FunctionBounds.noFunction(due, (d, f) -> d.glitch(f)));
        Bounds.of(27, "NONE: 1; 5.", due -> FunctionBounds.somethingBad(due, (d, f) -> d.glitch(f)));
    }

    // ---- 28

    private static void runParts() {
        Bounds.ofTerm("IV", "A RUN: each LETTER of a CUBE is what it must be, or, if it may be any, UNKNOWN (2). A product: 0, if "
                + "some LETTER isn't what it must be; else 2, if some that must be 0 or 1 is UNKNOWN; else 1.", due -> {
            BurstDesk desk = Desks.of("state 0;begin 0 /;gate p a b'c d's t';gate q;gate r t");
            String[] cubes = {"101010", "------", "-----0", "10101-", "-----1", "0-----", "111010", "00----"};
            int[][] due012 = {{1, 2, 2, 2, 0, 0, 0, 0}, {1, 1, 1, 1, 1, 1, 1, 1}, {0, 2, 0, 2, 1, 2, 0, 2}};
            for (int f = 0; f < 3; f++) {
                for (int i = 0; i < cubes.length; i++) {
                    due.told(desk, "run(" + f + ", " + cubes[i] + ")", desk.run(f, Texts.cube(cubes[i]), true), due012[f][i]);
                }
            }
        });
        Bounds.ofTerm("IV", "A FUNCTION by products: 1, if one is; else 2, if one is; else 0.", due -> {
            BurstDesk desk = Desks.of("state 0;begin 0 /;gate p a;gate p b;gate p c;gate q a;gate q a'");
            String[] cubes = {"000---", "001---", "100---", "0-0---", "--1---", "1-----", "------", "-00---"};
            int[] due012 = {0, 1, 1, 2, 1, 1, 2, 2};
            for (int i = 0; i < cubes.length; i++) {
                due.told(desk, "run(0, " + cubes[i] + ")", desk.run(P, Texts.cube(cubes[i]), true), due012[i]);
            }
            due.told(desk, "one of two is 1, whichever, and nobody knows", desk.run(Q, 728, true), 2);
            due.told(desk, "no gate at all", desk.run(R, 728, true), 0);
        });
    }

    private static void run() {
        Bounds.of(28, "A RUN with a CUBE: by the gates of the FUNCTION, or by FEWEST.", due -> {
            BurstDesk desk = Desks.of(Desks.BOTH + ";gate p a'b'c'd's't';gate t");
            int[][] first = {{1, 0}, {0, 0}, {0, 0}, {0, 0}, {1, 0}};
            int[][] last = {{2, 2}, {0, 0}, {0, 0}, {0, 2}, {1, 0}};
            for (int f = 0; f < 5; f++) {
                due.told(desk, "run(" + f + ", 0, true)", desk.run(f, 0, true), first[f][0]);
                due.told(desk, "run(" + f + ", 0, false)", desk.run(f, 0, false), first[f][1]);
                due.told(desk, "run(" + f + ", 728, true)", desk.run(f, 728, true), last[f][0]);
                due.told(desk, "run(" + f + ", 728, false)", desk.run(f, 728, false), last[f][1]);
            }
            // All five PRIMES of it count: only the last one is 1, only the first one is.
            BurstDesk five = Desks.of(Desks.RING_OF_THREE);
            due.told(five, "by the last PRIME", five.run(S, Texts.cube("----10"), false), 1);
            due.told(five, "by the first PRIME", five.run(S, Texts.cube("011-11"), false), 1);
            due.told(five, "by none", five.run(S, Texts.cube("111-11"), false), 0);
            BurstDesk alone = Desks.of(Desks.ALONE);
            due.told(alone, "by the PRIME of all POINTS", alone.run(P, 728, false), 1);
            due.told(alone, "by no PRIME", alone.run(Q, 728, false), 0);
            // All sixteen gates count: only the last is of t.
            BurstDesk full = Desks.of(Desks.FULL);
            due.told(full, "by the last gate of sixteen", full.run(T, Texts.cube("000010"), true), 1);
        });
    }

    private static void runRefused() {
        Bounds.of(28, "NONE: 1 (f)", due -> {
            FunctionBounds.noFunction(due, (d, f) -> d.run(f, 729, true));
            FunctionBounds.noFunction(due, (d, f) -> d.run(f, 729, false));
            FunctionBounds.noFunction(due, (d, f) -> d.run(f, 0, true));
        });
        Bounds.of(28, "5 (by FEWEST: there is none, too;", due -> {
            FunctionBounds.noFewest(due, (d, f) -> d.run(f, 0, false));
            FunctionBounds.noFewest(due, (d, f) -> d.run(f, 729, false));
            FunctionBounds.somethingBad(due, (d, f) -> d.run(f, 729, false));
        });
        Bounds.of(28, "by gates: asked, too)", due -> {
            FunctionBounds.somethingBad(due, (d, f) -> d.run(f, 0, true));
            FunctionBounds.somethingBad(due, (d, f) -> d.run(f, 729, true));
            // There need not be a FEWEST then.
            BurstDesk lacking = Desks.of(Desks.LACKING);
            due.told(lacking, "no COVER", lacking.run(P, 0, true), 0);
            BurstDesk ring = Desks.of(Desks.RING);
            due.told(ring, "six PRIMES", ring.run(S, 0, true), 0);
        });
        Bounds.of(28, "; 2 (a CUBE).", due -> {
            BurstDesk desk = Desks.of(Desks.BOTH);
            for (int f = 0; f < 5; f++) {
                int function = f;
                due.noneOutside(desk, "CUBE by gates", 729, 2, (d, cube) -> d.run(function, cube, true));
                due.noneOutside(desk, "CUBE by FEWEST", 729, 2, (d, cube) -> d.run(function, cube, false));
            }
            BurstDesk ring = Desks.of(Desks.RING);
            due.no(ring, "a CUBE by gates, no FEWEST", ring.run(S, 729, true), 2);
        });
    }

    // ---- 29

    private static void runBurst() {
        Bounds.of(29, "A RUN with an ARC's BURST.", due -> {
            BurstDesk desk = Desks.of(Desks.BOTH + ";gate p s;gate q s';gate r a b;gate t");
            int[][] gates = {{0, 1}, {1, 0}, {2, 2}, {0, 0}, {1, 1}};
            int[][] fewest = {{2, 2}, {0, 0}, {0, 0}, {2, 2}, {0, 0}};
            for (int f = 0; f < 5; f++) {
                for (int arc = 0; arc < 2; arc++) {
                    due.told(desk, "by gates, " + f + ", " + arc, desk.runBurst(f, arc, true), gates[f][arc]);
                    due.told(desk, "by FEWEST, " + f + ", " + arc, desk.runBurst(f, arc, false), fewest[f][arc]);
                }
            }
            BurstDesk full = Desks.of(Desks.FULL);
            due.told(full, "the last of eight, by gates", full.runBurst(P, 7, true), 1);
            due.told(full, "the last of eight, by FEWEST", full.runBurst(P, 7, false), 0);
        });
        Bounds.of(29, "NONE: 1 (f, an ARC)", due -> {
            FunctionBounds.noFunction(due, (d, f) -> d.runBurst(f, 0, true));
            FunctionBounds.noFunction(due, (d, f) -> d.runBurst(f, 0, false));
            for (boolean gates : new boolean[] {true, false}) {
                due.noneOutside(Desks.of(Desks.BOTH), "ARC of two", 2, 1, (d, arc) -> d.runBurst(P, arc, gates));
                due.noneOutside(Desks.of(Desks.FULL), "ARC of eight", 8, 1, (d, arc) -> d.runBurst(T, arc, gates));
                due.noneOutside(Desks.of(Desks.ALONE), "ARC of none", 0, 1, (d, arc) -> d.runBurst(P, arc, gates));
                due.noneOutside(Desks.of(Desks.RING), "ARC, no FEWEST", 4, 1, (d, arc) -> d.runBurst(S, arc, gates));
                due.noneOutside(Desks.bad(6), "ARC, BAD", 2, 1, (d, arc) -> d.runBurst(P, arc, gates));
            }
        });
        Bounds.of(29, "5 (likewise).", due -> {
            FunctionBounds.somethingBad(due, (d, f) -> d.runBurst(f, 0, true));
            FunctionBounds.somethingBad(due, (d, f) -> d.runBurst(f, 0, false));
            FunctionBounds.noFewest(due, (d, f) -> d.runBurst(f, 0, false));
            BurstDesk ring = Desks.of(Desks.RING);
            due.told(ring, "by gates there need be no FEWEST", ring.runBurst(S, 0, true), 0);
        });
    }

    // ---- 30, 31

    private static void noFeedback(Bounds due, Bounds.Ask call) {
        for (int number = 1; number <= 6; number++) {
            BurstDesk desk = Desks.bad(number);
            due.no(desk, "BAD by " + number, call.of(desk, 0), 5);
        }
        for (String text : new String[] {Desks.RING, Desks.LACKING_S, Desks.LACKING_T}) {
            BurstDesk desk = Desks.of(text);
            for (int arc = 0; arc < 3; arc++) {
                due.no(desk, "s or t of " + text, call.of(desk, arc), 5);
            }
        }
        BurstDesk lacking = Desks.of(Desks.LACKING);
        due.is("p need not have a FEWEST", call.of(lacking, 0) >= 0, true);
    }

    private static void noArc(Bounds due, Bounds.Ask call) {
        due.noneOutside(Desks.of(Desks.BOTH), "ARC of two", 2, 1, call);
        due.noneOutside(Desks.of(Desks.FULL), "ARC of eight", 8, 1, call);
        due.noneOutside(Desks.of(Desks.ALONE), "ARC of none", 0, 1, call);
        due.noneOutside(Desks.of(Desks.RING), "ARC, no FEWEST", 4, 1, call);
        due.noneOutside(Desks.bad(1), "ARC, BAD by 1", 1, 1, call);
        due.noneOutside(Desks.bad(6), "ARC, BAD by 6", 2, 1, call);
        due.noneOutside(new BurstDesk(), "ARC, no MACHINE", 0, 1, call);
    }

    private static void settles() {
        // Never more than one round, so never -2: in all of the TURN s and t have to be what they are in to.
        Bounds.of(30, "Feedback: INPUTS as behind an ARC, CODE that of its from: round by round s and t, both at once, are what "
                + "FEWEST tells of them there: how many rounds till the CODE is what it was ahead of the round (that one not "
                + "counted); -2, if it isn't by the 8th.", due -> {
            BurstDesk ring = Desks.of(Desks.RING_OF_THREE);
            for (int arc = 0; arc < 4; arc++) {
                due.told(ring, "one BIT, ARC " + arc, ring.settles(arc), 1);
            }
            BurstDesk full = Desks.of(Desks.FULL);
            for (int arc = 0; arc < 8; arc++) {
                due.told(full, "no BIT, ARC " + arc, full.settles(arc), 0);
            }
            BurstDesk both = Desks.of("state 1;state 2;begin 0 /;arc 0 1 a+ /");
            due.told(both, "both BITS at once", both.settles(0), 1);
        });
        Bounds.of(30, "NONE: 1", due -> noArc(due, (d, arc) -> d.settles(arc)));
        Bounds.of(30, "5 (s or t has no FEWEST, too).", due -> noFeedback(due, (d, arc) -> d.settles(arc)));
    }

    private static void settled() {
        Bounds.of(31, "The CODE then (behind 8 rounds).", due -> {
            int[] codes = {1, 3, 2, 0};
            BurstDesk ring = Desks.of(Desks.RING_OF_THREE);
            for (int arc = 0; arc < 4; arc++) {
                due.told(ring, "one BIT, ARC " + arc, ring.settled(arc), codes[arc]);
            }
            BurstDesk same = Desks.of("state 3;state 3;begin 0 /;arc 0 1 a+ /");
            due.told(same, "no BIT", same.settled(0), 3);
            BurstDesk both = Desks.of("state 1;state 2;begin 0 /;arc 0 1 a+ /");
            due.told(both, "both BITS at once", both.settled(0), 2);
        });
        Bounds.of(31, "NONE: 1", due -> noArc(due, (d, arc) -> d.settled(arc)));
        Bounds.of(31, "5 (likewise).", due -> noFeedback(due, (d, arc) -> d.settled(arc)));
    }
}
