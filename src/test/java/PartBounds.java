/** Boundary cases of promises 6 to 10 and of VALUES and BAD, Terms III. */
final class PartBounds {
    private PartBounds() {
    }

    static void all() {
        bad();
        badAt();
        values();
        badByGoing();
        badByForm();
        badByCodes();
        states();
        arcs();
        gates();
        groups();
    }

    private static void isBad(Bounds due, String text, int bad, int at) {
        BurstDesk desk = Desks.of(text);
        due.told(desk, "bad() of " + text, desk.bad(), bad);
        due.told(desk, "badAt() of " + text, desk.badAt(), at);
    }

    // ---- 6, 7

    private static void bad() {
        Bounds.of(6, "Which BAD, 0 if none is.", due -> {
            for (int number = 1; number <= 6; number++) {
                BurstDesk desk = Desks.bad(number);
                due.told(desk, "bad(), " + number, desk.bad(), number);
            }
            for (String text : new String[] {Desks.ALONE, Desks.BOTH, Desks.FULL, Desks.RING}) {
                BurstDesk desk = Desks.of(text);
                due.told(desk, "bad() of " + text, desk.bad(), 0);
            }
            BurstDesk desk = Desks.bad(4);
            Texts.machine(desk, Desks.ALONE);
            due.told(desk, "bad() behind a MACHINE that was BAD", desk.bad(), 0);
        });
        Bounds.of(6, "NONE: 1 (no MACHINE).", due -> {
            BurstDesk desk = new BurstDesk();
            due.no(desk, "bad()", desk.bad(), 1);
            desk.machine(0);
            due.no(desk, "bad() behind a FAULT", desk.bad(), 1);
        });
    }

    private static void badAt() {
        Bounds.of(7, "At which ARC or STATE; -2 if nothing is BAD.", due -> {
            int[] places = {0, 1, 1, 1, 2, 1};
            for (int number = 1; number <= 6; number++) {
                BurstDesk desk = Desks.bad(number);
                due.told(desk, "badAt() of BAD " + number, desk.badAt(), places[number - 1]);
            }
            for (String text : new String[] {Desks.ALONE, Desks.BOTH, Desks.FULL, Desks.RING}) {
                BurstDesk desk = Desks.of(text);
                due.told(desk, "badAt() of " + text, desk.badAt(), -2);
            }
            BurstDesk desk = Desks.bad(4);
            Texts.machine(desk, Desks.ALONE);
            due.told(desk, "badAt() behind a MACHINE that was BAD", desk.badAt(), -2);
        });
        Bounds.of(7, "NONE: 1 (no MACHINE).", due -> {
            BurstDesk desk = new BurstDesk();
            due.no(desk, "badAt()", desk.badAt(), 1);
            desk.machine(0);
            due.no(desk, "badAt() behind a FAULT", desk.badAt(), 1);
        });
    }

    // ---- Terms III: VALUES

    private static void values() {
        Bounds.ofTerm("III", "VALUES of a STATE: what INPUTS, OUTPUTS are there. That of begin has those told.", due -> {
            BurstDesk none = Desks.of("state 0;begin 0 /");
            due.told(none, "INPUTS, none told", none.state(0, 1), 0);
            due.told(none, "OUTPUTS, none told", none.state(0, 2), 0);
            BurstDesk last = Desks.of("state 0;state 0;state 0;state 0;state 0;state 0;begin 5 a b c d / p q r");
            due.told(last, "INPUTS, all told", last.state(5, 1), 15);
            due.told(last, "OUTPUTS, all told", last.state(5, 2), 7);
            due.told(last, "INPUTS of another one", last.state(0, 1), -2);
        });
        Bounds.ofTerm("III", "ARCS are GONE ALONG: again and again the first one that isn't yet, whose from has VALUES; to has "
                + "what they change then.", due -> {
            // Told from the end on: each of them waits for the one behind it.
            BurstDesk desk = Desks.of("state 0;state 0;state 0;state 0;state 0;state 0;begin 0 /;arc 4 5 a+ / q+;"
                    + "arc 3 4 a- /;arc 2 3 a+ /;arc 1 2 a- /;arc 0 1 a+ /");
            for (int i = 0; i < 5; i++) {
                due.told(desk, "arc(" + i + ", 6)", desk.arc(i, 6), 1);
            }
            due.told(desk, "INPUTS of the last STATE", desk.state(5, 1), 1);
            due.told(desk, "OUTPUTS of the last STATE", desk.state(5, 2), 2);
            // ARC 1 is the first whose from has VALUES: STATE 2 has its own by it, and ARC 0 comes last.
            BurstDesk order = Desks.of("state 0;state 0;state 0;begin 0 /;arc 1 2 b+ /;arc 0 2 a+ /;arc 0 1 c+ /");
            due.told(order, "bad()", order.bad(), 2);
            due.told(order, "badAt(): ARC 0 came behind both", order.badAt(), 0);
            due.told(order, "INPUTS by ARC 1", order.state(2, 1), 1);
            // As soon as STATE 1 has VALUES by ARC 1, ARC 0 is the first one, ahead of ARC 2.
            BurstDesk first = Desks.of("state 0;state 0;state 0;begin 0 /;arc 1 2 b+ /;arc 0 1 c+ /;arc 0 2 a+ /");
            due.told(first, "badAt(): ARC 2 came last", first.badAt(), 2);
            due.told(first, "INPUTS by ARC 0", first.state(2, 1), 6);
        });
        Bounds.ofTerm("III", "BAD, the first that is met (nothing is GONE ALONG behind it)", due -> {
            BurstDesk desk = Desks.of("state 0;state 0;state 0;begin 0 /;arc 0 1 a- /;arc 0 2 b+ /;arc 0 1 c- /");
            due.told(desk, "badAt(), the first of two", desk.badAt(), 0);
            due.told(desk, "arc(0, 6)", desk.arc(0, 6), 1);
            due.told(desk, "arc(1, 6)", desk.arc(1, 6), 0);
            due.told(desk, "arc(2, 6)", desk.arc(2, 6), 0);
            due.told(desk, "state(2, 1), not reached", desk.state(2, 1), -2);
            BurstDesk two = Desks.of("state 0;state 0;state 0;begin 0 /;arc 0 1 a+ /;arc 0 1 b+ /;arc 1 2 c- /");
            due.told(two, "bad(), 2 is met ahead of 1", two.bad(), 2);
            due.told(two, "arc(2, 6)", two.arc(2, 6), 0);
            due.told(two, "state(2, 1), not reached", two.state(2, 1), -2);
        });
    }

    private static void badByGoing() {
        Bounds.ofTerm("III", "1 an ARC GONE ALONG by which a letter becomes what it is; at that ARC (its to gets no VALUES).",
                due -> {
            isBad(due, "state 0;state 1;begin 0 a /;arc 0 1 a+ /", 1, 0);
            isBad(due, "state 0;state 1;begin 0 /;arc 0 1 a- /", 1, 0);
            isBad(due, "state 0;state 1;begin 0 d /;arc 0 1 c+ d+ /", 1, 0);
            isBad(due, "state 0;state 1;begin 0 d /;arc 0 1 c- d- /", 1, 0);
            isBad(due, "state 0;state 1;begin 0 / p;arc 0 1 a+ / p+", 1, 0);
            isBad(due, "state 0;state 1;begin 0 /;arc 0 1 a+ / p-", 1, 0);
            isBad(due, "state 0;state 1;begin 0 / r;arc 0 1 a+ / q+ r+", 1, 0);
            isBad(due, "state 0;state 1;begin 0 / r;arc 0 1 a+ / q- r-", 1, 0);
            // One that is never GONE ALONG isn't BAD by 1.
            isBad(due, "state 0;state 1;begin 0 /;arc 1 0 a- /;arc 1 0 a+ /", 3, 1);
            BurstDesk desk = Desks.of("state 0;state 1;begin 0 a /;arc 0 1 a+ / p+");
            due.told(desk, "INPUTS of its to", desk.state(1, 1), -2);
            due.told(desk, "OUTPUTS of its to", desk.state(1, 2), -2);
            BurstDesk full = Desks.of(Desks.FULL.replace("arc 0 3 b+ /", "arc 0 3 b- /"));
            due.told(full, "bad() by the last of eight", full.bad(), 1);
            due.told(full, "badAt() by the last of eight", full.badAt(), 7);
        });
        Bounds.ofTerm("III", "2 one whose to has VALUES already, other ones; at it (it keeps those).", due -> {
            isBad(due, "state 0;begin 0 /;arc 0 0 a+ /", 2, 0);
            isBad(due, "state 0;state 1;begin 0 /;arc 0 1 a+ /;arc 1 0 b+ /", 2, 1);
            isBad(due, "state 0;state 1;begin 0 /;arc 0 1 a+ /;arc 1 0 a- / p+", 2, 1);
            isBad(due, "state 0;state 1;begin 0 /;arc 0 1 a+ / p+;arc 0 1 b+ / p+", 2, 1);
            isBad(due, "state 0;state 1;begin 0 /;arc 0 1 a+ / p+;arc 0 1 a+ / p+ r+", 2, 1);
            // The same VALUES again are not BAD by 2.
            isBad(due, "state 0;state 1;state 2;begin 0 /;arc 0 1 a+ / p+;arc 1 2 b+ /;arc 2 1 b- /", 0, -2);
            // 1 and 2 by one ARC: 1.
            isBad(due, "state 0;state 1;begin 0 /;arc 0 1 a+ /;arc 0 1 b- /", 1, 1);
            BurstDesk desk = Desks.of("state 0;state 1;begin 0 /;arc 0 1 a+ / p+;arc 0 1 b+ / q+");
            due.told(desk, "INPUTS it keeps", desk.state(1, 1), 1);
            due.told(desk, "OUTPUTS it keeps", desk.state(1, 2), 1);
            BurstDesk begin = Desks.of("state 0;begin 0 c / r;arc 0 0 c- / r-");
            due.told(begin, "INPUTS that begin keeps", begin.state(0, 1), 4);
            due.told(begin, "OUTPUTS that begin keeps", begin.state(0, 2), 4);
        });
    }

    private static void badByForm() {
        Bounds.ofTerm("III", "Then 3: a STATE without VALUES; at the first.", due -> {
            isBad(due, "state 0;state 0;begin 0 /", 3, 1);
            isBad(due, "state 0;state 0;begin 1 /", 3, 0);
            isBad(due, "state 0;state 0;state 0;begin 1 /", 3, 0);
            isBad(due, "state 0;state 0;state 0;state 0;state 0;state 0;begin 0 /;arc 0 1 a+ /;arc 1 2 b+ /;arc 2 3 c+ /;"
                    + "arc 3 4 d+ /", 3, 5);
            // Then: 1 and 2 come ahead of it, though the STATE is there from the beginning.
            isBad(due, "state 0;state 0;state 0;begin 0 /;arc 0 1 a- /", 1, 0);
            isBad(due, "state 0;state 0;begin 0 /;arc 0 0 a+ /", 2, 0);
            // The last of six has them.
            isBad(due, Desks.FULL, 0, -2);
        });
        Bounds.ofTerm("III", "4: an ARC whose INPUTS are all INPUTS of another one from the same STATE; at the first.",
                due -> {
            String three = "state 0;state 1;state 2;begin 0 /;";
            isBad(due, three + "arc 0 1 a+ /;arc 0 2 a+ b+ /", 4, 0);
            isBad(due, three + "arc 0 1 a+ b+ /;arc 0 2 a+ /", 4, 1);
            isBad(due, three + "arc 0 1 a+ b+ c+ /;arc 0 2 b+ c+ d+ /", 0, -2);
            isBad(due, three + "arc 0 1 a+ b+ c+ d+ /;arc 0 2 b+ c+ d+ /", 4, 1);
            // All of two alike are of each other: the first.
            isBad(due, "state 0;state 1;begin 0 /;arc 0 1 a+ /;arc 0 1 a+ /", 4, 0);
            // From another STATE they may be.
            isBad(due, "state 0;state 0;state 0;begin 0 /;arc 0 1 a+ b+ /;arc 1 2 a- /", 0, -2);
            // 3 comes ahead of it.
            isBad(due, "state 0;state 1;state 1;begin 0 /;arc 0 1 a+ /;arc 0 1 a+ /", 3, 2);
            // Two such pairs: the first ARC.
            isBad(due, "state 0;state 1;state 2;begin 0 /;arc 1 0 a- /;arc 1 2 b+ /;arc 2 1 b- /;arc 2 0 a- b- /;arc 0 1 a+ /;"
                    + "arc 0 2 a+ b+ /", 4, 2);
            // The last of eight.
            isBad(due, Desks.FULL.replace("arc 0 1 a+ / p+", "arc 0 2 a+ b+ / p+")
                    .replace("arc 0 3 b+ /", "arc 0 1 a+ / p+"), 4, 7);
        });
    }

    private static void badByCodes() {
        Bounds.ofTerm("III", "5: two STATES of one POINT (INPUTS, CODE), of which some OUTPUT isn't the same; at the first "
                + "STATE that is so with one ahead of it.", due -> {
            String three = "state 0;state 0;state 0;begin 0 /;arc 0 1 a+ / ";
            for (String output : new String[] {"p", "q", "r"}) {
                isBad(due, three + output + "+;arc 1 2 a- /", 5, 2);
                isBad(due, three + output + "+;arc 1 2 a- / " + output + "-", 0, -2);
            }
            // Another CODE is another POINT.
            isBad(due, "state 0;state 0;state 1;begin 0 /;arc 0 1 a+ / p+;arc 1 2 a- /", 6, 1);
            // Other INPUTS are another POINT.
            isBad(due, three + "p+;arc 1 2 b+ /", 0, -2);
            // Two such pairs: the first STATE that has one ahead of it.
            isBad(due, "state 0;state 0;state 0;state 0;begin 0 /;arc 0 1 a+ / p+;arc 1 2 a- /;arc 2 3 a+ / q+", 5, 2);
            // Ahead by number, not by the way it was reached.
            isBad(due, "state 0;state 0;state 0;begin 2 /;arc 2 1 a+ / p+;arc 1 0 a- /", 5, 2);
            // 4 comes ahead of it.
            isBad(due, "state 0;state 0;state 0;begin 0 /;arc 0 1 a+ / p+;arc 1 2 a- /;arc 0 1 a+ / p+", 4, 0);
        });
        Bounds.ofTerm("III", "6 a CLASH: a POINT at which a FUNCTION would have to be 0 and 1; at the first ARC by which, "
                + "with STATES and ARCS ahead of it, there is one.", due -> {
            // One FUNCTION alone, each of the five: STATE 2 lies on the way of ARC 0; the end of ARC 1 is STATE 0's POINT.
            for (String output : new String[] {"p", "q", "r"}) {
                isBad(due, "state 0;state 0;state 0;begin 0 /;arc 0 1 a+ b+ / " + output + "+;arc 1 2 b- /", 6, 0);
            }
            isBad(due, "state 2;state 2;state 3;begin 0 /;arc 0 1 d+ /;arc 1 2 d- /", 6, 1);
            isBad(due, "state 1;state 1;state 3;begin 0 /;arc 0 1 d+ /;arc 1 2 d- /", 6, 1);
            // It becomes 0 where it has to be 1 as well.
            isBad(due, "state 0;state 0;state 0;begin 0 / p;arc 0 1 a+ b+ / p-;arc 1 2 b- /", 6, 0);
            isBad(due, "state 3;state 3;state 2;begin 0 /;arc 0 1 d+ /;arc 1 2 d- /", 6, 1);
            // A TURN of both BITS meets CODE 1 at a, where the BURST of ARC 2 goes through with t 0.
            isBad(due, "state 0;state 3;state 1;begin 0 /;arc 0 1 a+ / p+;arc 1 2 b+ / p-;arc 2 0 a- b- /", 6, 2);
            // A TURN of both BITS from CODE 1 to 2 meets CODE 0, where the STATE of begin is.
            isBad(due, "state 0;state 1;state 2;begin 0 /;arc 0 1 a+ / p+;arc 1 2 a- / p-", 6, 1);
            // A BURST alone may go through what is either elsewhere.
            isBad(due, "state 0;state 0;state 0;begin 0 /;arc 0 1 a+ b+ / p+;arc 0 2 b+ c+ /", 0, -2);
        });
    }

    // ---- 8

    private static void states() {
        Bounds.of(8, "Of a STATE 0 its CODE, 1 INPUTS, 2 OUTPUTS there (bits; p 1, q 2, r 4; -2 without VALUES).", due -> {
            String[] inputs = {"a", "b", "c", "d"};
            for (int i = 0; i < 4; i++) {
                BurstDesk desk = Desks.of("state " + i + ";begin 0 " + inputs[i] + " /");
                due.told(desk, "CODE " + i, desk.state(0, 0), i);
                due.told(desk, "INPUT " + inputs[i], desk.state(0, 1), 1 << i);
                due.told(desk, "no OUTPUT", desk.state(0, 2), 0);
            }
            String[] outputs = {"p", "q", "r"};
            for (int i = 0; i < 3; i++) {
                BurstDesk desk = Desks.of("state 0;begin 0 / " + outputs[i]);
                due.told(desk, "OUTPUT " + outputs[i], desk.state(0, 2), 1 << i);
                due.told(desk, "no INPUT", desk.state(0, 1), 0);
            }
            BurstDesk full = Desks.of(Desks.FULL);
            due.told(full, "INPUTS of the last of six", full.state(5, 1), 6);
        });
        Bounds.of(8, "-2 without VALUES", due -> {
            BurstDesk desk = Desks.bad(3);
            due.told(desk, "state(1, 1)", desk.state(1, 1), -2);
            due.told(desk, "state(1, 2)", desk.state(1, 2), -2);
            due.told(desk, "state(1, 0), the CODE all the same", desk.state(1, 0), 1);
            // What had VALUES in the MACHINE ahead has none in this one.
            BurstDesk again = Desks.of(Desks.BOTH);
            Texts.machine(again, "state 0;state 1;begin 0 /");
            due.told(again, "state(1, 1)", again.state(1, 1), -2);
            due.told(again, "state(1, 2)", again.state(1, 2), -2);
            Texts.machine(again, "state 0;state 1;begin 1 /");
            due.told(again, "state(0, 1)", again.state(0, 1), -2);
            due.told(again, "state(0, 2)", again.state(0, 2), -2);
            due.told(again, "state(1, 1)", again.state(1, 1), 0);
            // And what had them ahead of a strike.
            BurstDesk struck = Desks.of(Desks.FALL);
            due.told(struck, "state(1, 1) ahead of it", struck.state(1, 1), 3);
            struck.strike(0);
            due.told(struck, "state(1, 1) behind it", struck.state(1, 1), -2);
        });
        Bounds.of(8, "NONE: 1.", due -> {
            BurstDesk both = Desks.of(Desks.BOTH);
            for (int what = 0; what < 3; what++) {
                int part = what;
                due.noneOutside(both, "STATE of two, what " + what, 2, 1, (d, i) -> d.state(i, part));
            }
            due.noneOutside(both, "what", 3, 1, (d, what) -> d.state(0, what));
            BurstDesk full = Desks.of(Desks.FULL);
            due.told(full, "the last of six", full.state(5, 0), 0);
            due.noneOutside(full, "STATE of six", 6, 1, (d, i) -> d.state(i, 0));
            BurstDesk bad = Desks.bad(3);
            due.noneOutside(bad, "STATE without VALUES, what", 3, 1, (d, what) -> d.state(1, what));
            BurstDesk empty = new BurstDesk();
            due.no(empty, "state(0, 0), no MACHINE", empty.state(0, 0), 1);
        });
    }

    // ---- 9

    private static void arcs() {
        Bounds.of(9, "Of an ARC 0 from, 1 to, 2 INPUTS that become 1, 3 INPUTS that become 0, 4, 5 OUTPUTS likewise (bits), "
                + "6 1 if it was GONE ALONG", due -> {
            BurstDesk desk = Desks.of("state 0;state 1;begin 0 b d / q;arc 0 1 a+ b- c+ d- / p+ q- r+;arc 1 0 d+ / q+");
            int[][] rows = {{0, 1, 5, 10, 5, 2, 1}, {1, 0, 8, 0, 2, 0, 1}};
            for (int i = 0; i < 2; i++) {
                for (int what = 0; what < 7; what++) {
                    due.told(desk, "arc(" + i + ", " + what + ")", desk.arc(i, what), rows[i][what]);
                }
            }
            BurstDesk full = Desks.of(Desks.FULL);
            int[] last = {0, 3, 2, 0, 0, 0, 1};
            for (int what = 0; what < 7; what++) {
                due.told(full, "arc(7, " + what + ")", full.arc(7, what), last[what]);
            }
            BurstDesk all = Desks.of(Desks.RING);
            due.told(all, "all INPUTS become 1", all.arc(0, 2), 15);
            due.told(all, "all INPUTS become 0", all.arc(1, 3), 15);
        });
        Bounds.of(9, "(by 1, 2, too), 0.", due -> {
            for (int number = 1; number <= 2; number++) {
                BurstDesk desk = Desks.bad(number);
                due.told(desk, "GONE ALONG by BAD " + number, desk.arc(number - 1, 6), 1);
            }
            BurstDesk behind = Desks.of("state 0;state 1;begin 0 a /;arc 0 1 a+ /;arc 0 1 b+ /");
            due.told(behind, "not behind BAD 1", behind.arc(1, 6), 0);
            BurstDesk away = Desks.of("state 0;state 1;state 2;begin 0 /;arc 1 2 a+ /");
            due.told(away, "from has no VALUES", away.arc(0, 6), 0);
            // The next MACHINE's ARCS are gone along anew.
            BurstDesk again = Desks.of(Desks.BOTH);
            Texts.machine(again, "state 0;state 1;state 2;begin 0 /;arc 1 2 a+ /");
            due.told(again, "arc(0, 6) anew", again.arc(0, 6), 0);
        });
        Bounds.of(9, "NONE: 1.", due -> {
            BurstDesk both = Desks.of(Desks.BOTH);
            for (int what = 0; what < 7; what++) {
                int part = what;
                due.noneOutside(both, "ARC of two, what " + what, 2, 1, (d, i) -> d.arc(i, part));
            }
            due.noneOutside(both, "what", 7, 1, (d, what) -> d.arc(0, what));
            BurstDesk full = Desks.of(Desks.FULL);
            due.noneOutside(full, "ARC of eight", 8, 1, (d, i) -> d.arc(i, 0));
            full.strike(0);
            due.no(full, "arc(7, 0), struck out", full.arc(7, 0), 1);
            BurstDesk alone = Desks.of(Desks.ALONE);
            due.no(alone, "arc(0, 0), no ARC", alone.arc(0, 0), 1);
            BurstDesk empty = new BurstDesk();
            due.no(empty, "arc(0, 0), no MACHINE", empty.arc(0, 0), 1);
        });
    }

    // ---- 10

    private static void gates() {
        Bounds.of(10, "Of a gate 0 its FUNCTION, 1 its CUBE.", due -> {
            BurstDesk desk = Desks.of("state 0;begin 0 /;gate p a'b'c'd's't';gate t;gate r a;gate q t'");
            int[][] rows = {{0, 0}, {4, 728}, {2, Texts.cube("1-----")}, {1, Texts.cube("-----0")}};
            for (int i = 0; i < 4; i++) {
                due.told(desk, "gate(" + i + ", 0)", desk.gate(i, 0), rows[i][0]);
                due.told(desk, "gate(" + i + ", 1)", desk.gate(i, 1), rows[i][1]);
            }
            BurstDesk full = Desks.of(Desks.FULL);
            due.told(full, "gate(15, 0)", full.gate(15, 0), 4);
            due.told(full, "gate(15, 1)", full.gate(15, 1), Texts.cube("----10"));
            due.told(full, "gate(14, 1)", full.gate(14, 1), 728);
        });
        Bounds.of(10, "NONE: 1.", due -> {
            BurstDesk desk = Desks.of(Desks.FALL + ";gate p a;gate q b");
            for (int what = 0; what < 2; what++) {
                int part = what;
                due.noneOutside(desk, "gate of two, what " + what, 2, 1, (d, i) -> d.gate(i, part));
            }
            due.noneOutside(desk, "what", 2, 1, (d, what) -> d.gate(0, what));
            BurstDesk full = Desks.of(Desks.FULL);
            due.noneOutside(full, "gate of sixteen", 16, 1, (d, i) -> d.gate(i, 0));
            BurstDesk undone = Desks.of(Desks.BOTH);
            undone.add(0, 0);
            due.told(undone, "gate(0, 0)", undone.gate(0, 0), 0);
            undone.undo();
            due.no(undone, "gate(0, 0), undone", undone.gate(0, 0), 1);
            BurstDesk empty = new BurstDesk();
            due.no(empty, "gate(0, 0), no MACHINE", empty.gate(0, 0), 1);
        });
    }

    private static void groups() {
        Bounds.ofRest("states, arcs, gates: 1 without such a one, or another what.", due -> {
            // Both at once, and while something is BAD: still 1, and never another number.
            for (int number = 1; number <= 6; number++) {
                BurstDesk bad = Desks.bad(number);
                due.told(bad, "state(0, 0) though it is BAD", bad.state(0, 0), number == 5 ? 3 : 0);
                due.told(bad, "arc(0, 0) though it is BAD", bad.arc(0, 0), 0);
                due.no(bad, "state(9, 9)", bad.state(9, 9), 1);
                due.no(bad, "arc(9, 9)", bad.arc(9, 9), 1);
                due.no(bad, "gate(0, 9)", bad.gate(0, 9), 1);
                bad.add(2, 3);
                due.told(bad, "gate(0, 0) though it is BAD", bad.gate(0, 0), 2);
                due.told(bad, "gate(0, 1) though it is BAD", bad.gate(0, 1), 3);
            }
        });
    }
}
