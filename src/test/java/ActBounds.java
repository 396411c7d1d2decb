/** Boundary cases of promises 37 to 43: ACTS, and what is told. */
final class ActBounds {
    private ActBounds() {
    }

    static void all() {
        recode();
        strike();
        add();
        undo();
        kept();
        last();
        size();
        trouble();
    }

    private interface Deed {
        int on(BurstDesk desk);
    }

    /** A refused call leaves the MACHINE, its ACTS and THE WALK as they are. */
    private static void changesNothing(Bounds due, String call, Deed deed, int trouble) {
        BurstDesk desk = Desks.of(Desks.WAYS + ";gate p".repeat(15));
        desk.add(2, 7);
        desk.push(1);
        String before = Bounds.portrait(desk);
        due.no(desk, call, deed.on(desk), trouble);
        due.is("the desk behind " + call, Bounds.portrait(desk), before);
    }

    // ---- 37

    private static void recode() {
        Bounds.of(37, "CODE of a STATE (the one it has, too): the one it had.", due -> {
            BurstDesk desk = Desks.of(Desks.FULL);
            for (int code = 1; code <= 4; code++) {
                due.told(desk, "recode(5, " + code % 4 + ")", desk.recode(5, code % 4), code - 1);
                due.told(desk, "state(5, 0)", desk.state(5, 0), code % 4);
                due.is("size(3)", desk.size(3), code);
            }
            due.told(desk, "the one it has", desk.recode(5, 0), 0);
            due.is("it counts", desk.size(3), 5);
            due.told(desk, "recode(0, 3)", desk.recode(0, 3), 0);
            due.told(desk, "state(0, 0)", desk.state(0, 0), 3);
            due.told(desk, "no other STATE", desk.state(1, 0), 0);
            BurstDesk bad = Desks.bad(6);
            due.told(bad, "though it is BAD", bad.recode(2, 0), 2);
            due.told(bad, "nothing is BAD then", bad.bad(), 0);
            due.told(bad, "the one ahead", bad.recode(2, 2), 0);
            due.told(bad, "BAD again", bad.bad(), 6);
        });
        Bounds.of(37, "NONE: 1", due -> {
            due.noneOutside(Desks.of(Desks.BOTH), "STATE of two", 2, 1, (d, state) -> d.recode(state, 0));
            due.noneOutside(Desks.of(Desks.BOTH), "STATE of two, a CODE too", 2, 1, (d, state) -> d.recode(state, 4));
            due.noneOutside(Desks.of(Desks.FULL), "STATE of six", 6, 1, (d, state) -> d.recode(state, 0));
            due.noneOutside(new BurstDesk(), "STATE, no MACHINE", 0, 1, (d, state) -> d.recode(state, 0));
            changesNothing(due, "recode(3, 1)", d -> d.recode(3, 1), 1);
        });
        Bounds.of(37, "2 (0 .. 3).", due -> {
            due.noneOutside(Desks.of(Desks.BOTH), "CODE", 4, 2, (d, code) -> d.recode(1, code));
            changesNothing(due, "recode(0, 4)", d -> d.recode(0, 4), 2);
            changesNothing(due, "recode(0, -1)", d -> d.recode(0, -1), 2);
        });
    }

    // ---- 38

    private static void strike() {
        Bounds.of(38, "An ARC is struck out: how many are left.", due -> {
            BurstDesk first = Desks.of(Desks.FULL);
            BurstDesk last = Desks.of(Desks.FULL);
            for (int left = 7; left >= 0; left--) {
                due.told(first, "strike(0)", first.strike(0), left);
                due.told(last, "strike(" + left + ")", last.strike(left), left);
                due.is("size(1)", first.size(1), left);
            }
            due.no(first, "none is left", first.arc(0, 0), 1);
            BurstDesk bad = Desks.bad(1);
            due.told(bad, "though it is BAD", bad.strike(0), 0);
            due.told(bad, "BAD by 3 then", bad.bad(), 3);
        });
        Bounds.ofTerm("IV", "ARC struck out (those behind it are 1 less)", due -> {
            int[] from = {0, 1, 2, 3, 2, 4, 5, 0};
            int[] to = {1, 2, 3, 0, 4, 5, 3, 3};
            int[] up = {1, 2, 0, 0, 4, 0, 0, 2};
            int[] falls = {0, 0, 1, 0, 0, 1, 0, 0};
            for (int struck = 0; struck < 8; struck++) {
                BurstDesk desk = Desks.of(Desks.FULL);
                desk.strike(struck);
                for (int i = 0; i < 7; i++) {
                    int was = i < struck ? i : i + 1;
                    due.told(desk, "from of " + i, desk.arc(i, 0), from[was]);
                    due.told(desk, "to of " + i, desk.arc(i, 1), to[was]);
                    due.told(desk, "INPUTS of " + i, desk.arc(i, 2), up[was]);
                    due.told(desk, "OUTPUTS of " + i, desk.arc(i, 5), falls[was]);
                }
                due.no(desk, "the eighth", desk.arc(7, 0), 1);
            }
        });
        Bounds.of(38, "An ARC is struck out", due -> {
            // Nothing of it counts any more: not for VALUES, not for what is BAD.
            BurstDesk values = Desks.of("state 0;state 1;state 2;begin 0 /;arc 1 2 a+ /;arc 0 1 b+ /");
            values.strike(1);
            due.told(values, "state(1, 1)", values.state(1, 1), -2);
            due.told(values, "arc(0, 6)", values.arc(0, 6), 0);
            due.told(values, "badAt()", values.badAt(), 1);
            BurstDesk alike = Desks.of("state 0;state 1;begin 0 /;arc 0 1 a+ /;arc 0 1 a+ /");
            due.told(alike, "BAD by 4 with it", alike.bad(), 4);
            alike.strike(1);
            due.told(alike, "and not without it", alike.bad(), 0);
            BurstDesk clash = Desks.of("state 0;state 3;state 1;begin 0 /;arc 0 1 a+ / p+;arc 1 2 b+ / p-;arc 2 0 a- b- /");
            due.told(clash, "BAD by 6 with it", clash.bad(), 6);
            clash.strike(2);
            due.told(clash, "and not without it", clash.bad(), 0);
        });
        Bounds.of(38, "An ARC is struck out", due -> {
            // Nor for FUNCTIONS, nor for THE WALK, nor for codes.
            BurstDesk desk = Desks.of(Desks.BOTH);
            due.told(desk, "falls(0) with it", desk.falls(0), 1);
            due.told(desk, "safe(0, as) with it", desk.safe(0, Texts.cube("100010")), 0);
            due.told(desk, "at(0, as) with it", desk.at(0, 17), 1);
            desk.strike(1);
            due.told(desk, "falls(0)", desk.falls(0), 0);
            due.told(desk, "safe(0, as)", desk.safe(0, Texts.cube("100010")), 1);
            due.told(desk, "at(0, as)", desk.at(0, 17), 2);
            desk.add(0, Texts.cube("11----"));
            due.told(desk, "glitch(0)", desk.glitch(0), -2);
            desk.push(0);
            desk.push(1);
            due.told(desk, "STATE", desk.walk(0), 1);
            due.no(desk, "push(0): it can't be gone along", desk.push(0), 5);
            due.told(desk, "codings(1)", desk.codings(1), 1);
            due.no(desk, "runBurst(0, 1, true)", desk.runBurst(0, 1, true), 1);
        });
        Bounds.of(38, "NONE: 1.", due -> {
            due.noneOutside(Desks.of(Desks.BOTH), "ARC of two", 2, 1, (d, arc) -> d.strike(arc));
            due.noneOutside(Desks.of(Desks.FULL), "ARC of eight", 8, 1, (d, arc) -> d.strike(arc));
            due.noneOutside(Desks.of(Desks.ALONE), "ARC of none", 0, 1, (d, arc) -> d.strike(arc));
            due.noneOutside(new BurstDesk(), "ARC, no MACHINE", 0, 1, (d, arc) -> d.strike(arc));
            BurstDesk desk = Desks.of(Desks.FALL);
            desk.strike(0);
            due.no(desk, "the only one, again", desk.strike(0), 1);
            changesNothing(due, "strike(3)", d -> d.strike(3), 1);
            changesNothing(due, "strike(-1)", d -> d.strike(-1), 1);
        });
    }

    // ---- 39

    private static void add() {
        Bounds.of(39, "A gate more: how many there are.", due -> {
            BurstDesk desk = Desks.of(Desks.BOTH);
            for (int count = 1; count <= 16; count++) {
                int cube = count == 16 ? 728 : count - 1;
                due.told(desk, "add(" + count % 5 + ", " + cube + ")", desk.add(count % 5, cube), count);
                due.told(desk, "its FUNCTION", desk.gate(count - 1, 0), count % 5);
                due.told(desk, "its CUBE", desk.gate(count - 1, 1), cube);
            }
            BurstDesk told = Desks.of(Desks.FALL + ";gate p".repeat(15));
            due.told(told, "behind fifteen that are told", told.add(4, 0), 16);
            BurstDesk bad = Desks.bad(2);
            due.told(bad, "though it is BAD", bad.add(0, 0), 1);
        });
        Bounds.of(39, "NONE: 1 (f; no MACHINE)", due -> {
            due.noneOutside(Desks.of(Desks.BOTH), "FUNCTION", 5, 1, (d, f) -> d.add(f, 0));
            due.noneOutside(Desks.of(Desks.BOTH), "FUNCTION ahead of a CUBE", 5, 1, (d, f) -> d.add(f, 729));
            due.noneOutside(Desks.of(Desks.FULL), "FUNCTION ahead of no room", 5, 1, (d, f) -> d.add(f, 0));
            BurstDesk empty = new BurstDesk();
            for (int f = -1; f <= 5; f++) {
                due.no(empty, "add(" + f + ", 0) without a MACHINE", empty.add(f, 0), 1);
                due.no(empty, "add(" + f + ", 729) without a MACHINE", empty.add(f, 729), 1);
            }
            changesNothing(due, "add(5, 0)", d -> d.add(5, 0), 1);
        });
        Bounds.of(39, "2 (a CUBE)", due -> {
            for (int f = 0; f < 5; f++) {
                int function = f;
                due.noneOutside(Desks.of(Desks.BOTH), "CUBE", 729, 2, (d, cube) -> d.add(function, cube));
                due.noneOutside(Desks.of(Desks.FULL), "CUBE ahead of no room", 729, 2, (d, cube) -> d.add(function, cube));
            }
            changesNothing(due, "add(0, 729)", d -> d.add(0, 729), 2);
        });
        Bounds.of(39, "3 (16 at most).", due -> {
            BurstDesk full = Desks.of(Desks.FULL);
            due.no(full, "a 17th", full.add(0, 0), 3);
            due.is("size(2)", full.size(2), 16);
            due.is("size(3)", full.size(3), 0);
            changesNothing(due, "a 17th", d -> d.add(0, 0), 3);
            BurstDesk desk = Desks.of(Desks.FALL + ";gate p".repeat(15));
            due.told(desk, "the 16th", desk.add(0, 0), 16);
            due.no(desk, "the 17th", desk.add(0, 1), 3);
            due.undone(desk);
            due.told(desk, "the 16th again", desk.add(3, 2), 16);
            due.told(desk, "it is the new one", desk.gate(15, 1), 2);
            due.told(desk, "its FUNCTION, too", desk.gate(15, 0), 3);
        });
    }

    // ---- 40

    private static void undo() {
        Bounds.of(40, "UNDO: true;", due -> {
            BurstDesk desk = Desks.of(Desks.FULL.substring(0, Desks.FULL.length() - ";gate t s t'".length()));
            String first = Bounds.portrait(desk);
            desk.recode(5, 3);
            due.undone(desk);
            due.is("behind a CODE", Bounds.portrait(desk), first);
        });
        Bounds.of(40, "UNDO: true;", due -> {
            for (int arc = 0; arc < 8; arc++) {
                BurstDesk desk = Desks.of(Desks.FULL);
                String first = Bounds.portrait(desk);
                desk.strike(arc);
                due.undone(desk);
                due.is("behind ARC " + arc, Bounds.portrait(desk), first);
            }
            BurstDesk desk = Desks.of(Desks.WAYS);
            String first = Bounds.portrait(desk);
            desk.add(4, 728);
            due.undone(desk);
            due.is("behind a gate", Bounds.portrait(desk), first);
            // A gate that is gone holds nothing, and does no HARM.
            BurstDesk fall = Desks.of(Desks.FALL + ";gate p a'");
            fall.add(0, Texts.cube("-0----"));
            due.told(fall, "harm(0, 0) with it", fall.harm(0, 0), 0);
            due.undone(fall);
            due.told(fall, "harm(0, 0) without it", fall.harm(0, 0), 2);
            fall.add(0, Texts.cube("1-----"));
            due.told(fall, "harm(0, 0) with another", fall.harm(0, 0), 7);
            due.told(fall, "run(0, a, true) with it", fall.run(0, Texts.cube("1-----"), true), 1);
            due.undone(fall);
            due.told(fall, "harm(0, 0) without it", fall.harm(0, 0), 2);
            due.told(fall, "run(0, a, true) without it", fall.run(0, Texts.cube("1-----"), true), 0);
        });
        Bounds.of(40, "UNDO: true;", due -> {
            // What was found of FUNCTIONS and codes ahead of an ACT holds again behind its undoing.
            BurstDesk desk = Desks.of(Desks.BOTH);
            due.is("formula(0)", Texts.formula(desk, 0), "ab+as+bs");
            due.told(desk, "codings(1)", desk.codings(1), 0);
            desk.strike(1);
            due.is("formula(0) behind it", Texts.formula(desk, 0), "ab");
            due.told(desk, "codings(1) behind it", desk.codings(1), 1);
            due.undone(desk);
            due.is("formula(0) again", Texts.formula(desk, 0), "ab+as+bs");
            due.told(desk, "codings(1) again", desk.codings(1), 0);
            desk.recode(1, 2);
            due.is("formula(0) of another CODE", Texts.formula(desk, 0), "ab+at+bt");
            due.undone(desk);
            due.is("formula(0) once more", Texts.formula(desk, 0), "ab+as+bs");
        });
        Bounds.of(40, "false: 1 (there is none).", due -> {
            due.notUndone(new BurstDesk());
            BurstDesk desk = Desks.of(Desks.BOTH);
            due.notUndone(desk);
            desk.recode(0, 0);
            due.undone(desk);
            due.notUndone(desk);
            desk.recode(9, 0);
            desk.strike(9);
            desk.add(9, 0);
            due.notUndone(desk);
            due.is("size(3)", desk.size(3), 0);
        });
    }

    private static void kept() {
        Bounds.ofTerm("IV", "UNDO: the latest (12 are kept).", due -> {
            BurstDesk twelve = Desks.of(Desks.ALONE);
            for (int i = 0; i < 12; i++) {
                twelve.recode(0, i % 4);
                due.is("size(3)", twelve.size(3), i + 1);
            }
            for (int i = 0; i < 12; i++) {
                due.undone(twelve);
                due.told(twelve, "CODE behind undo " + i, twelve.state(0, 0), i == 11 ? 3 : (10 - i) % 4);
                due.is("size(3)", twelve.size(3), 11 - i);
            }
            due.notUndone(twelve);
            BurstDesk more = Desks.of(Desks.ALONE);
            for (int i = 0; i < 30; i++) {
                more.recode(0, i % 4);
            }
            due.is("size(3) behind thirty", more.size(3), 12);
            for (int i = 0; i < 12; i++) {
                due.undone(more);
                due.told(more, "CODE behind undo " + i, more.state(0, 0), (28 - i) % 4);
            }
            due.notUndone(more);
            due.told(more, "as behind the eighteenth", more.state(0, 0), 1);
        });
        Bounds.ofTerm("IV", "UNDO: the latest (12 are kept).", due -> {
            // Sorts mixed: the thirteenth from the end, an ARC, can't come back.
            BurstDesk desk = Desks.of(Desks.WAYS);
            desk.strike(0);
            for (int i = 0; i < 4; i++) {
                desk.recode(2, i);
                desk.add(i, i);
                desk.recode(2, 2);
            }
            due.is("size(3)", desk.size(3), 12);
            for (int i = 0; i < 12; i++) {
                due.undone(desk);
            }
            due.notUndone(desk);
            due.is("two ARCS", desk.size(1), 2);
            due.is("no gate", desk.size(2), 0);
            due.told(desk, "CODE", desk.state(2, 0), 2);
            due.told(desk, "the first ARC", desk.arc(0, 1), 2);
        });
        Bounds.ofTerm("IV", "ACTS: CODE of a STATE, ARC struck out (those behind it are 1 less), a gate more.", due -> {
            BurstDesk desk = Desks.of(Desks.FULL);
            for (int i = 7; i >= 0; i--) {
                desk.strike(i / 2);
            }
            due.is("no ARC is left", desk.size(1), 0);
            for (int i = 0; i < 8; i++) {
                due.undone(desk);
                due.is("ARCS", desk.size(1), i + 1);
            }
            due.is("all as it was", Bounds.portrait(desk), Bounds.portrait(Desks.of(Desks.FULL)));
        });
    }

    // ---- 41

    private static void last() {
        Bounds.of(41, "The i-th STATE, by numbers, from which there is no ARC.", due -> {
            BurstDesk ways = Desks.of(Desks.WAYS);
            due.is("last(0)", ways.last(0), 2);
            BurstDesk six = Desks.of("state 0;state 0;state 0;state 0;state 0;state 0;begin 0 /");
            for (int i = 0; i < 6; i++) {
                due.is("last(" + i + ") of six", six.last(i), i);
            }
            BurstDesk some = Desks.of("state 0;state 0;state 0;state 0;begin 0 /;arc 0 1 a+ /;arc 2 3 a+ /");
            due.is("last(0)", some.last(0), 1);
            due.is("last(1)", some.last(1), 3);
            some.strike(0);
            due.is("last(0) behind a strike", some.last(0), 0);
            due.is("last(2) behind a strike", some.last(2), 3);
            some.undo();
            due.is("last(0) behind undo", some.last(0), 1);
        });
        Bounds.of(41, "NoSuchElementException if there is none such.", due -> {
            BurstDesk[] desks = {new BurstDesk(), Desks.of(Desks.FULL), Desks.of(Desks.BOTH), Desks.of(Desks.RING)};
            for (BurstDesk desk : desks) {
                for (int i : new int[] {0, 1, 5, 6, -1, Integer.MIN_VALUE, Integer.MAX_VALUE}) {
                    due.noLast(desk, i);
                }
            }
            BurstDesk one = Desks.of(Desks.WAYS);
            for (int i : Bounds.outside(0, 0)) {
                due.noLast(one, i);
            }
            BurstDesk six = Desks.of("state 0;state 0;state 0;state 0;state 0;state 0;begin 0 /");
            for (int i : Bounds.outside(0, 5)) {
                due.noLast(six, i);
            }
            due.is("bad(), the desk goes on", six.bad(), 3);
        });
    }

    // ---- 42

    private static void sizes(Bounds due, String what, BurstDesk desk, int... sizes) {
        for (int i = 0; i < 6; i++) {
            due.is("size(" + i + ") of " + what, desk.size(i), sizes[i]);
        }
    }

    private static void size() {
        Bounds.of(42, "0 STATES, 1 ARCS, 2 gates, 3 ACTS that can be undone, 4 bytes of THE TAPE, 5 the STATE of begin.", due -> {
            BurstDesk full = Desks.of(Desks.FULL);
            sizes(due, "the full one", full, 6, 8, 16, 0, 0, 0);
            for (int i = 0; i < 13; i++) {
                full.recode(0, 0);
            }
            for (int i = 0; i < 31; i++) {
                full.feed(0, 0, 0, 0, 0);
            }
            sizes(due, "a full TAPE", full, 6, 8, 16, 12, 600, 0);
            full.strike(0);
            sizes(due, "one struck out", full, 6, 7, 16, 12, 600, 0);
            BurstDesk end = Desks.of("state 0;state 0;state 0;state 0;state 0;state 0;begin 5 /");
            sizes(due, "begin in the last STATE", end, 6, 0, 0, 0, 0, 5);
        });
        Bounds.of(42, "NONE for others", due -> {
            for (BurstDesk desk : new BurstDesk[] {new BurstDesk(), Desks.of(Desks.FULL), Desks.bad(1)}) {
                for (int what : Bounds.outside(0, 5)) {
                    due.is("size(" + what + ")", desk.size(what), -1);
                }
            }
        });
        Bounds.of(42, "0 for what there isn't.", due -> {
            sizes(due, "a new desk", new BurstDesk(), 0, 0, 0, 0, 0, 0);
            BurstDesk desk = new BurstDesk();
            desk.machine(0);
            sizes(due, "a desk behind a FAULT", desk, 0, 0, 0, 0, 0, 0);
            Texts.machine(desk, "state 0;state 0;begin 1 /;arc 1 0 a+ /;gate p;begin");
            sizes(due, "a desk behind another FAULT", desk, 0, 0, 0, 0, 0, 0);
            sizes(due, "a STATE alone", Desks.of(Desks.ALONE), 1, 0, 0, 0, 0, 0);
        });
    }

    // ---- 43

    private static void trouble() {
        Bounds.of(43, "TROUBLE.", due -> {
            due.is("trouble() of a new desk", new BurstDesk().trouble(), 0);
            BurstDesk desk = Desks.of(Desks.FULL);
            desk.add(0, 0);
            for (int i = 0; i < 3; i++) {
                due.is("trouble(), asked again", desk.trouble(), 3);
            }
        });
        Bounds.ofTerm("V", "TROUBLE of the latest call that may be refused (those of which a number is told here): 0 it wasn't;",
                due -> {
            for (String name : Calls.TOLD.keySet()) {
                BurstDesk desk = Calls.prepared();
                desk.state(9, 9);
                due.is("trouble() ahead of " + name, desk.trouble(), 1);
                Calls.TOLD.get(name).on(desk);
                due.is("trouble() behind " + name, desk.trouble(), 0);
            }
            for (String name : Calls.SILENT.keySet()) {
                BurstDesk desk = Calls.prepared();
                desk.at(0, 64);
                Calls.SILENT.get(name).on(desk);
                due.is("trouble() behind " + name, desk.trouble(), 2);
            }
            BurstDesk tape = new BurstDesk();
            for (int i = 0; i < 31; i++) {
                tape.feed(0, 0, 0, 0, 0);
            }
            due.is("trouble() behind feed without room", tape.trouble(), 0);
        });
        Bounds.ofTerm("V", "1 there is none such; 2 a number; 3 no room; 4 a FAULT; 5 not so (something is BAD; there is no "
                + "FEWEST).", due -> {
            BurstDesk desk = Desks.of(Desks.RING + ";gate p".repeat(16));
            due.no(desk, "1", desk.arc(4, 0), 1);
            due.no(desk, "2", desk.safe(0, 729), 2);
            due.no(desk, "3", desk.add(0, 0), 3);
            due.no(desk, "4", desk.machine(0), 4);
            due.no(desk, "5, no FEWEST", desk.literals(3), 5);
            desk.strike(3);
            desk.strike(2);
            due.no(desk, "5, something is BAD", desk.literals(0), 5);
        });
    }
}
