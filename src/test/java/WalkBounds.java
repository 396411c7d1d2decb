/** Boundary cases of promises 32 to 36: THE WALK and codes. */
final class WalkBounds {
    /** No CODES will do: STATES 0, 1, 2 want three unlike ones, 3 and 4 none of these, and one each. */
    private static final String NO_CODES = "state 1;state 3;state 0;state 3;state 0;begin 0 /;arc 2 3 d+ / p+;"
            + "arc 0 1 d+ / p+;arc 3 4 d- /;arc 4 1 d+ /;arc 1 2 d- / p-";

    private WalkBounds() {
    }

    static void all() {
        push();
        pushRefused();
        walk();
        anew();
        shown();
        codings();
        codingsRefused();
        coding();
        codingRefused();
    }

    private static void pushes(Bounds due, BurstDesk desk, int[] inputs, int[] states) {
        for (int i = 0; i < inputs.length; i++) {
            due.told(desk, "push " + i + ", of " + inputs[i], desk.push(inputs[i]), states[i]);
        }
    }

    // ---- 32

    private static void push() {
        Bounds.of(32, "An INPUT changes (0 .. 3): CHANGED, too, or, if all INPUTS of an ARC from there are, it is gone along "
                + "(none CHANGED then): the STATE.", due -> {
            // One INPUT a BURST; all four in one, in any order; of two ARCS that which has all.
            pushes(due, Desks.of(Desks.FULL), new int[] {0, 1, 2, 0, 2, 1, 1}, new int[] {1, 2, 4, 5, 3, 0, 3});
            BurstDesk ring = Desks.of(Desks.RING);
            pushes(due, ring, new int[] {3, 1, 0, 2, 0, 1, 2, 3}, new int[] {0, 0, 0, 1, 1, 1, 1, 2});
            due.told(ring, "none CHANGED then", ring.walk(3), 0);
            pushes(due, ring, new int[] {2, 3, 1, 0, 1, 0, 3, 2}, new int[] {2, 2, 2, 3, 3, 3, 3, 0});
            pushes(due, Desks.of(Desks.WAYS), new int[] {1, 0, 0, 1, 2, 1}, new int[] {0, 1, 1, 0, 0, 2});
        });
    }

    private static void pushRefused() {
        Bounds.of(32, "NONE: 1 (no MACHINE)", due -> {
            BurstDesk desk = new BurstDesk();
            due.no(desk, "push(0)", desk.push(0), 1);
            due.no(desk, "push(4), no MACHINE is ahead of it", desk.push(4), 1);
            due.no(desk, "push(-1), no MACHINE is ahead of it", desk.push(-1), 1);
        });
        Bounds.of(32, "5 (something is BAD)", due -> {
            for (int number = 1; number <= 6; number++) {
                BurstDesk desk = Desks.bad(number);
                due.no(desk, "push(0), BAD by " + number, desk.push(0), 5);
                due.no(desk, "push(4), BAD is ahead of it", desk.push(4), 5);
                due.no(desk, "push(-1), BAD is ahead of it", desk.push(-1), 5);
            }
        });
        Bounds.of(32, "; 2;", due -> {
            due.noneOutside(Desks.of(Desks.RING), "INPUT", 4, 2, (d, input) -> d.push(input));
            BurstDesk none = Desks.of(Desks.ALONE);
            due.noneOutside(none, "INPUT, no ARC", 4, 2, (d, input) -> d.push(input));
        });
        Bounds.of(32, "5 (CHANGED already;", due -> {
            BurstDesk ring = Desks.of(Desks.RING);
            int[] order = {3, 0, 2};
            for (int i = 0; i < 3; i++) {
                due.told(ring, "push", ring.push(order[i]), 0);
                int changed = ring.walk(3);
                for (int j = 0; j <= i; j++) {
                    due.no(ring, "push(" + order[j] + ") again", ring.push(order[j]), 5);
                }
                due.told(ring, "CHANGED as before", ring.walk(3), changed);
            }
            due.told(ring, "the last one", ring.push(1), 1);
            due.told(ring, "one of them in the next STATE", ring.push(3), 1);
        });
        Bounds.of(32, "with it CHANGED aren't all among the INPUTS of one ARC from there).", due -> {
            BurstDesk ways = Desks.of(Desks.WAYS);
            due.no(ways, "d is in no BURST from there", ways.push(3), 5);
            due.told(ways, "a", ways.push(0), 0);
            due.no(ways, "a and c are in two BURSTS", ways.push(2), 5);
            due.told(ways, "a alone is CHANGED", ways.walk(3), 1);
            due.told(ways, "STATE", ways.walk(0), 0);
            due.told(ways, "b goes along", ways.push(1), 1);
            due.no(ways, "c is in a BURST from another STATE alone", ways.push(2), 5);
            BurstDesk alone = Desks.of(Desks.ALONE);
            BurstDesk fall = Desks.of(Desks.FALL);
            fall.push(0);
            fall.push(1);
            for (int input = 0; input < 4; input++) {
                due.no(alone, "no ARC, push(" + input + ")", alone.push(input), 5);
                due.no(fall, "no ARC from STATE 1, push(" + input + ")", fall.push(input), 5);
            }
            due.told(fall, "still there", fall.walk(0), 1);
        });
    }

    // ---- 33

    private static void walk() {
        Bounds.of(33, "Of THE WALK 0 the STATE, 1 INPUTS as they are, 2 OUTPUTS, 3 INPUTS CHANGED.", due -> {
            BurstDesk ring = Desks.of(Desks.RING);
            int[] inputs = {-1, 3, 0, 1, 2, 2, 3};
            int[][] rows = {{0, 0, 2, 0}, {0, 8, 2, 8}, {0, 9, 2, 9}, {0, 11, 2, 11}, {1, 15, 2, 0}, {1, 11, 2, 4},
                {1, 3, 2, 12}};
            for (int i = 0; i < rows.length; i++) {
                if (inputs[i] >= 0) {
                    ring.push(inputs[i]);
                }
                for (int what = 0; what < 4; what++) {
                    due.told(ring, "walk(" + what + ") behind " + i + " pushes", ring.walk(what), rows[i][what]);
                }
            }
            BurstDesk last = Desks.of("state 0;state 0;state 0;state 0;state 0;state 0;begin 5 a / p q r;arc 5 4 a- / p- q- r-;"
                    + "arc 4 3 b+ /;arc 3 2 c+ /;arc 2 1 d+ /;arc 1 0 c- /");
            due.told(last, "it begins in the last STATE", last.walk(0), 5);
            due.told(last, "OUTPUTS there", last.walk(2), 7);
            last.push(0);
            due.told(last, "OUTPUTS behind the ARC", last.walk(2), 0);
        });
        Bounds.of(33, "NONE: 1 (no MACHINE; what)", due -> {
            BurstDesk empty = new BurstDesk();
            for (int what = -1; what <= 4; what++) {
                due.no(empty, "walk(" + what + ") without a MACHINE", empty.walk(what), 1);
            }
            due.noneOutside(Desks.of(Desks.BOTH), "what", 4, 1, (d, what) -> d.walk(what));
            for (int number = 1; number <= 6; number++) {
                due.noneOutside(Desks.bad(number), "what, BAD by " + number, 4, 1, (d, what) -> d.walk(what));
            }
        });
        Bounds.of(33, "; 5.", due -> {
            for (int number = 1; number <= 6; number++) {
                BurstDesk desk = Desks.bad(number);
                for (int what = 0; what < 4; what++) {
                    due.no(desk, "walk(" + what + "), BAD by " + number, desk.walk(what), 5);
                }
            }
        });
    }

    private interface Deed {
        void on(BurstDesk desk);
    }

    /** In STATE 1 with a CHANGED, an ACT ahead of it. */
    private static BurstDesk underway() {
        BurstDesk desk = Desks.of(Desks.WAYS);
        desk.add(1, 0);
        desk.push(1);
        desk.push(0);
        desk.push(0);
        return desk;
    }

    private static void walkIs(Bounds due, String behind, Deed deed, int state, int changed) {
        BurstDesk desk = underway();
        deed.on(desk);
        due.told(desk, "STATE behind " + behind, desk.walk(0), state);
        due.told(desk, "CHANGED behind " + behind, desk.walk(3), changed);
    }

    private static void anew() {
        Bounds.ofTerm("IV", "THE WALK: it is in a STATE, with some INPUTS of a BURST CHANGED (at first begin, none; from there "
                + "anew by each MACHINE, ACT, undo() that isn't refused).", due -> {
            walkIs(due, "nothing", d -> d.bad(), 1, 1);
            walkIs(due, "recode", d -> d.recode(2, 3), 0, 0);
            walkIs(due, "recode to the CODE it has", d -> d.recode(2, 2), 0, 0);
            walkIs(due, "strike", d -> d.strike(2), 0, 0);
            walkIs(due, "add", d -> d.add(0, 728), 0, 0);
            walkIs(due, "undo of add", d -> d.undo(), 0, 0);
            walkIs(due, "a MACHINE", d -> Texts.machine(d, Desks.WAYS), 0, 0);
            walkIs(due, "recode, refused by 1", d -> d.recode(3, 0), 1, 1);
            walkIs(due, "recode, refused by 2", d -> d.recode(0, 4), 1, 1);
            walkIs(due, "strike, refused", d -> d.strike(3), 1, 1);
            walkIs(due, "add, refused by 1", d -> d.add(5, 0), 1, 1);
            walkIs(due, "add, refused by 2", d -> d.add(0, 729), 1, 1);
            walkIs(due, "machine, refused by 2", d -> d.machine(1), 1, 1);
            walkIs(due, "machine, refused by 4", d -> d.machine(0), 1, 1);
            walkIs(due, "push, refused", d -> d.push(0), 1, 1);
            BurstDesk full = Desks.of(Desks.FULL);
            full.push(0);
            due.no(full, "add, no room", full.add(0, 0), 3);
            due.told(full, "STATE behind add, refused by 3", full.walk(0), 1);
            due.notUndone(full);
            due.told(full, "STATE behind undo, refused", full.walk(0), 1);
            for (int kind = 0; kind < 2; kind++) {
                BurstDesk desk = Desks.of(Desks.WAYS);
                if (kind == 0) {
                    desk.recode(2, 2);
                } else {
                    desk.strike(2);
                }
                desk.push(1);
                desk.push(0);
                due.told(desk, "STATE", desk.walk(0), 1);
                due.undone(desk);
                due.told(desk, "STATE behind undo, sort " + kind, desk.walk(0), 0);
            }
            BurstDesk other = Desks.of("state 0;state 0;begin 1 /;arc 1 0 a+ /");
            other.push(0);
            other.recode(0, 0);
            due.told(other, "begin is not STATE 0", other.walk(0), 1);
        });
    }

    // ---- 34

    private static void shown() {
        Bounds.of(34, "What FUNCTIONS are by FEWEST at INPUTS as they are and the CODE of its STATE, as bits (p 1, .. t 16)",
                due -> {
            BurstDesk ring = Desks.of(Desks.RING_OF_THREE);
            due.told(ring, "at first", ring.shown(), 0);
            int[] bits = {0, 0, 8, 8, 8, 24, 24, 24, 16, 16, 16, 0};
            for (int i = 0; i < 12; i++) {
                ring.push(i % 3);
                due.told(ring, "behind push " + i, ring.shown(), bits[i]);
            }
            for (int f = 0; f < 3; f++) {
                BurstDesk desk = Desks.of("state 0;begin 0 / " + "pqr".charAt(f));
                due.told(desk, "OUTPUT " + f + " alone", desk.shown(), 1 << f);
            }
            BurstDesk all = Desks.of("state 3;begin 0 a b c d / p q r");
            due.told(all, "all of them", all.shown(), 31);
        });
        Bounds.of(34, "-2 if one has no FEWEST.", due -> {
            String[] texts = {Desks.LACKING, Desks.LACKING.replace('p', 'q'), Desks.LACKING.replace('p', 'r'), Desks.LACKING_S,
                Desks.LACKING_T, Desks.RING};
            for (String text : texts) {
                BurstDesk desk = Desks.of(text);
                due.told(desk, "shown() of " + text, desk.shown(), -2);
            }
        });
        Bounds.of(34, "NONE: 1 (no MACHINE)", due -> {
            BurstDesk desk = new BurstDesk();
            due.no(desk, "shown()", desk.shown(), 1);
        });
        Bounds.of(34, "5 (something is BAD).", due -> {
            for (int number = 1; number <= 6; number++) {
                BurstDesk desk = Desks.bad(number);
                due.no(desk, "shown(), BAD by " + number, desk.shown(), 5);
            }
        });
    }

    // ---- 35

    /** Each way is told as a MACHINE of its own, and counted if nothing is BAD. */
    private static int ways(String rest, int states, int n) {
        int count = 0;
        int all = 1;
        for (int i = 0; i < states; i++) {
            all *= n;
        }
        for (int way = 0; way < all; way++) {
            StringBuilder text = new StringBuilder();
            int left = way;
            for (int i = 0; i < states; i++) {
                text.append("state ").append(left % n).append(';');
                left /= n;
            }
            count += Desks.of(text + rest).bad() == 0 ? 1 : 0;
        }
        return count;
    }

    private static void codings() {
        Bounds.of(35, "In how many ways all STATES can have CODES below n (1 .. 4) so that neither 5 nor 6 is BAD.", due -> {
            int[] alone = {1, 2, 3, 4};
            int[] both = {0, 2, 6, 12};
            int[] none = {0, 0, 0, 0};
            for (int n = 1; n <= 4; n++) {
                BurstDesk desk = Desks.of(Desks.ALONE);
                due.told(desk, "one STATE, " + n, desk.codings(n), alone[n - 1]);
                desk = Desks.of(Desks.BOTH);
                due.told(desk, "two STATES that want unlike ones, " + n, desk.codings(n), both[n - 1]);
                desk = Desks.of(NO_CODES);
                due.told(desk, "no way, " + n, desk.codings(n), none[n - 1]);
            }
            // Six STATES, each way tried.
            String rest = "begin 0 /;arc 0 1 a+ b+ / p+;arc 1 2 a- /;arc 2 3 b- /;arc 3 4 c+ / p-;arc 4 5 a+ c- / q+";
            BurstDesk six = Desks.of("state 0;state 0;state 0;state 0;state 0;state 0;" + rest);
            for (int n = 1; n <= 4; n++) {
                due.told(six, "six STATES, " + n, six.codings(n), ways(rest, 6, n));
            }
        });
        Bounds.of(35, "so that neither 5 nor 6 is BAD", due -> {
            // Each OUTPUT by itself: two STATES of the same INPUTS want two CODES.
            for (String output : new String[] {"p", "q", "r"}) {
                BurstDesk desk = Desks.of("state 0;state 0;state 0;begin 0 /;arc 0 1 a+ / " + output + "+;arc 1 2 a- /");
                due.told(desk, output + " alone, n 1", desk.codings(1), 0);
                due.told(desk, output + " alone, n 2", desk.codings(2), 2);
                // The last STATE lies on the way of the first ARC, if all have one CODE.
                BurstDesk way = Desks.of("state 0;state 0;state 0;begin 0 /;arc 0 1 a+ b+ / " + output + "+;arc 1 2 b- /");
                due.told(way, output + " on a way, n 1", way.codings(1), 0);
            }
            // CODES as they are don't count; BAD by 5, by 6 is no hindrance.
            BurstDesk five = Desks.bad(5);
            due.told(five, "BAD by 5, n 1", five.codings(1), 0);
            due.told(five, "BAD by 5, n 2", five.codings(2), 2);
            BurstDesk six = Desks.bad(6);
            due.told(six, "BAD by 6, n 1", six.codings(1), 1);
            due.told(six, "still BAD", six.bad(), 6);
        });
    }

    private static void codingsRefused() {
        Bounds.of(35, "NONE: 1 (no MACHINE)", due -> {
            BurstDesk desk = new BurstDesk();
            for (int n = 0; n <= 5; n++) {
                due.no(desk, "codings(" + n + ")", desk.codings(n), 1);
            }
        });
        Bounds.of(35, "5 (BAD by 1 to 4)", due -> {
            for (int number = 1; number <= 4; number++) {
                BurstDesk desk = Desks.bad(number);
                for (int n = 0; n <= 5; n++) {
                    due.no(desk, "codings(" + n + "), BAD by " + number, desk.codings(n), 5);
                }
            }
        });
        Bounds.of(35, "; 2.", due -> {
            for (int n : Bounds.outside(1, 4)) {
                BurstDesk desk = Desks.of(Desks.BOTH);
                due.no(desk, "codings(" + n + ")", desk.codings(n), 2);
                due.told(desk, "codings(2) behind it", desk.codings(2), 2);
                due.no(desk, "codings(" + n + ") again", desk.codings(n), 2);
                BurstDesk bad = Desks.bad(5);
                due.no(bad, "codings(" + n + "), BAD by 5", bad.codings(n), 2);
            }
        });
    }

    // ---- 36

    private static void coding() {
        Bounds.of(36, "The CODE of a STATE in the first one (STATE by STATE the least CODES).", due -> {
            for (int n = 1; n <= 4; n++) {
                BurstDesk desk = Desks.of(Desks.ALONE);
                due.told(desk, "one STATE, " + n, desk.coding(n, 0), 0);
            }
            for (int n = 2; n <= 4; n++) {
                BurstDesk desk = Desks.of(Desks.BOTH);
                due.told(desk, "the first of two, " + n, desk.coding(n, 0), 0);
                due.told(desk, "the second of two, " + n, desk.coding(n, 1), 1);
            }
            BurstDesk bad = Desks.bad(5);
            int[] first = {0, 1, 1};
            for (int state = 0; state < 3; state++) {
                due.told(bad, "BAD by 5, STATE " + state, bad.coding(2, state), first[state]);
            }
            BurstDesk full = Desks.of(Desks.FULL);
            for (int state = 0; state < 6; state++) {
                due.told(full, "all alike, STATE " + state, full.coding(4, state), 0);
            }
            // STATE 0 can't be 0: 3 must be unlike 0 and 1, and its way to 1 goes through no CODE of 0.
            BurstDesk ring = Desks.of("state 2;state 2;state 3;state 3;arc 1 2 a+ /;arc 0 3 a+ /;arc 3 1 a- / p+;begin 0 /");
            int[] codes = {1, 2, 2, 0};
            for (int state = 0; state < 4; state++) {
                due.told(ring, "three CODES, STATE " + state, ring.coding(3, state), codes[state]);
            }
        });
    }

    private static void codingRefused() {
        Bounds.of(36, "NONE: 1 (no MACHINE; a STATE)", due -> {
            BurstDesk empty = new BurstDesk();
            for (int n = 0; n <= 5; n++) {
                due.no(empty, "coding(" + n + ", 0) without a MACHINE", empty.coding(n, 0), 1);
            }
            for (int n : new int[] {0, 1, 2, 4, 5}) {
                due.noneOutside(Desks.of(Desks.BOTH), "STATE of two, n " + n, 2, 1, (d, state) -> d.coding(n, state));
                due.noneOutside(Desks.bad(1), "STATE of two, BAD by 1, n " + n, 2, 1, (d, state) -> d.coding(n, state));
            }
            due.noneOutside(Desks.of(Desks.FULL), "STATE of six", 6, 1, (d, state) -> d.coding(4, state));
        });
        Bounds.of(36, "5 (BAD by 1 to 4)", due -> {
            for (int number = 1; number <= 4; number++) {
                BurstDesk desk = Desks.bad(number);
                for (int n = 0; n <= 5; n++) {
                    due.no(desk, "coding(" + n + ", 1), BAD by " + number, desk.coding(n, 1), 5);
                }
            }
        });
        Bounds.of(36, "; 2;", due -> {
            for (int n : Bounds.outside(1, 4)) {
                BurstDesk desk = Desks.of(Desks.BOTH);
                due.no(desk, "coding(" + n + ", 1)", desk.coding(n, 1), 2);
                due.told(desk, "coding(2, 1) behind it", desk.coding(2, 1), 1);
                due.no(desk, "coding(" + n + ", 1) again", desk.coding(n, 1), 2);
            }
        });
        Bounds.of(36, "1 (there is none).", due -> {
            BurstDesk both = Desks.of(Desks.BOTH);
            due.no(both, "coding(1, 0)", both.coding(1, 0), 1);
            due.no(both, "coding(1, 1)", both.coding(1, 1), 1);
            BurstDesk bad = Desks.bad(5);
            due.told(bad, "coding(2, 0)", bad.coding(2, 0), 0);
            due.no(bad, "coding(1, 0) behind it", bad.coding(1, 0), 1);
            BurstDesk none = Desks.of(NO_CODES);
            for (int n = 1; n <= 4; n++) {
                due.no(none, "coding(" + n + ", 4)", none.coding(n, 4), 1);
            }
        });
    }
}
