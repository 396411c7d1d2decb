/** Texts of MACHINES that the tests of boundary cases share, small enough to be followed by hand. */
final class Desks {
    /** Two inputs rise, an output does; both fall, it falls: p = s = ab + as + bs; q, r, t are never 1. */
    static final String BOTH = "state 0;state 1;begin 0 /;arc 0 1 a+ b+ / p+;arc 1 0 a- b- / p-";
    /** A STATE alone: CODE 3, nothing but p is 1. */
    static final String ALONE = "state 3;begin 0 / p";
    /** p falls by two inputs, and nothing comes behind it. */
    static final String FALL = "state 0;state 0;begin 0 / p;arc 0 1 a+ b+ / p-";
    /** Two ways from the first STATE, b in both of them. */
    static final String WAYS = "state 0;state 1;state 2;begin 0 / q;"
            + "arc 0 1 a+ b+ / p+;arc 0 2 b+ c+ / q-;arc 1 0 a- b- / p-";
    /** As many STATES, ARCS and gates as there is room for; one INPUT a BURST, p is what a is. */
    static final String FULL = "state 0;state 0;state 0;state 0;state 0;state 0;begin 0 /;arc 0 1 a+ / p+;arc 1 2 b+ /;"
            + "arc 2 3 a- / p-;arc 3 0 b- /;arc 2 4 c+ /;arc 4 5 a- / p-;arc 5 3 c- /;arc 0 3 b+ /"
            + ";gate p".repeat(15) + ";gate t s t'";
    /**
     * Through all four CODES by all four INPUTS: each FUNCTION has to be 0 or 1 at all 64 POINTS. q is always 1, p and r
     * are 0. s has the PRIMES a's, abcdt', b's, c's, d's, st', and each of them is the only one for some REQUIRED CUBE:
     * one more than FEWEST may have.
     */
    static final String RING = "state 0;state 1;state 3;state 2;begin 0 / q;arc 0 1 a+ b+ c+ d+ /;arc 1 2 a- b- c- d- /;"
            + "arc 2 3 a+ b+ c+ d+ /;arc 3 0 a- b- c- d- /";
    /** The same by three INPUTS: s takes a's, abct', b's, c's, st', five of six PRIMES (d is the fifth of them). */
    static final String RING_OF_THREE = "state 0;state 1;state 3;state 2;begin 0 /;arc 0 1 a+ b+ c+ /;"
            + "arc 1 2 a- b- c- /;arc 2 3 a+ b+ c+ /;arc 3 0 a- b- c- /";
    /**
     * No COVER of p: its TURN of ARC 1, 0100-0, has a POINT of the BURST of ARC 0, by which p falls, but not that of
     * from; with it it would have the POINT of STATE 0, where p is 0. REQUIRED are 000-00, 0-0000, then that one.
     */
    static final String LACKING = "state 1;state 0;state 0;state 2;begin 0 /;"
            + "arc 2 3 b+ d+ / p-;arc 0 1 b+ / p+;arc 1 2 b- /";
    /** The same of s, or of t, alone. */
    static final String LACKING_S = "state 0;state 1;state 1;state 0;begin 0 /;arc 1 3 c+ d+ /;arc 0 2 c+ /;arc 2 1 c- /";
    static final String LACKING_T = "state 0;state 2;state 2;state 0;begin 0 /;arc 1 3 c+ d+ /;arc 0 2 c+ /;arc 2 1 c- /";
    /** s has to be 0 at 000100, 1100-0 and 1 at 1001-0, 100-10, 1-0110; it falls by ARC 1 from 100110 on. */
    static final String TIES = "state 0;state 1;state 0;begin 0 d /;arc 0 1 a+ / q+;arc 1 2 b+ d- /";
    /** p is 1 at 000000, and 0 at each of the six POINTS beside it. */
    static final String POINT = "state 0;state 1;state 2;state 0;state 0;state 3;begin 0 / p;arc 0 1 a+ / p-;arc 0 2 b+ / p-;"
            + "arc 0 3 c+ / p-;arc 0 4 d+ / p-;arc 1 5 a- /;arc 2 5 b- /";
    /** Six STATES, eight ARCS: q and t want five PRIMES of sixteen, r five of twelve. */
    static final String LARGE = "state 0;state 1;state 3;state 2;state 0;state 2;arc 0 1 b+ / r+;arc 3 4 b- c+ / q-;"
            + "arc 5 0 c- / p- q- r-;arc 1 2 b- d+ / q+;arc 0 4 a+ c+ d+ /;arc 2 5 c+ d- / p+;begin 0 /;"
            + "arc 2 3 a+ b+ / r-;arc 3 2 a- b- / r+";

    /** One MACHINE for each BAD, 1 .. 6; each has STATES 0, 1 and an ARC. */
    private static final String[] BAD = {
        "state 0;state 1;begin 0 a /;arc 0 1 a+ /",
        "state 0;state 1;begin 0 /;arc 0 1 a+ /;arc 0 1 b+ /",
        "state 0;state 1;state 2;begin 0 /;arc 0 2 a+ /",
        "state 0;state 1;state 2;begin 0 /;arc 0 1 a+ b+ /;arc 0 2 b+ /",
        "state 3;state 3;state 3;begin 0 /;arc 0 1 c+ / q+;arc 1 2 c- /",
        "state 0;state 1;state 2;begin 0 /;arc 0 1 a+ / p+;arc 1 2 a- / p-"};

    private Desks() {
    }

    static BurstDesk of(String text) {
        BurstDesk desk = new BurstDesk();
        if (Texts.machine(desk, text) < 0) {
            throw new IllegalStateException("fault " + desk.fault() + " at " + desk.where() + " of " + text);
        }
        return desk;
    }

    static BurstDesk bad(int number) {
        BurstDesk desk = of(BAD[number - 1]);
        if (desk.bad() != number) {
            throw new IllegalStateException("BAD is " + desk.bad() + ", not " + number);
        }
        return desk;
    }
}
