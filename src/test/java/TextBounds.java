/** Boundary cases of promises 1 to 5, of the Terms I and II, and of what stands first in the document. */
final class TextBounds {
    private static final String SHORT = "state 0;begin 0 /";
    private static final String SIX_STATES = "state 0;state 1;state 2;state 3;state 0;state 0;begin 0 /";
    private static final String EIGHT_ARCS = "state 0;state 0;begin 0 /" + ";arc 0 1 a+ /".repeat(8);
    private static final String SIXTEEN_GATES = "state 0;begin 0 /" + ";gate p".repeat(16);

    private TextBounds() {
    }

    static void all() {
        calls();
        newObject();
        feed();
        machine();
        machineRefused();
        fault();
        where();
        tokens();
        lines();
        faults();
        places();
    }

    private static String padded(String text, int length) {
        return text + " ".repeat(length - text.length());
    }

    // ---- what stands first

    private static void calls() {
        Bounds.ofRest("An object is used for at most 512 calls after it has been made", due -> {
            BurstDesk desk = Desks.of(Desks.ALONE);
            // One feed and one machine() ahead of these.
            for (int call = 3; call <= 512; call++) {
                due.is("recode, call " + call, desk.recode(0, call % 4), call == 3 ? 3 : (call - 1) % 4);
            }
            BurstDesk reader = new BurstDesk();
            for (int i = 0; i < 170; i++) {
                reader.feed(0x73746174, 0x6520333B, 0x62656769, 0x6E20302F, 0x20702020);
                due.is("machine, time " + i, reader.machine(18), 0);
                due.is("its code, time " + i, reader.state(0, 0), 3);
            }
        });
    }

    // ---- 1

    private static void newObject() {
        Bounds.of(1, "No MACHINE.", due -> {
            BurstDesk desk = new BurstDesk();
            due.is("trouble()", desk.trouble(), 0);
            due.is("fault()", desk.fault(), 0);
            due.is("where()", desk.where(), -1);
            for (int what = 0; what < 6; what++) {
                due.is("size(" + what + ")", desk.size(what), 0);
            }
            due.noLast(desk, 0);
            for (String name : Calls.NEED_MACHINE) {
                desk.machine(-1);
                Calls.TOLD.get(name).on(desk);
                due.is("trouble() behind " + name, desk.trouble(), 1);
            }
            due.is("undo()", desk.undo(), false);
            due.is("bad()", desk.bad(), -1);
        });
        Bounds.of(1, "No MACHINE.", due -> {
            BurstDesk desk = new BurstDesk();
            Texts.machine(desk, "state 0");
            due.is("fault()", desk.fault(), 6);
            due.no(desk, "bad() behind a FAULT", desk.bad(), 1);
            due.is("size(0) behind a FAULT", desk.size(0), 0);
            due.noLast(desk, 0);
            due.no(desk, "add()", desk.add(0, 0), 1);
            due.no(desk, "state(0, 0)", desk.state(0, 0), 1);
        });
    }

    // ---- 2

    private static void feed() {
        Bounds.of(2, "Twenty bytes come behind THE TAPE", due -> {
            BurstDesk desk = new BurstDesk();
            desk.feed(0x73746174, 0x6520333B, 0x62656769, 0x6E20302F, 0x20202020);
            desk.feed(0x70207120, 0x72202020, 0x20202020, 0x20202020, 0x20202020);
            due.is("machine(26), p q r in the second twenty", desk.machine(26), 0);
            due.is("outputs", desk.state(0, 2), 7);
        });
        Bounds.of(2, "of each number the highest first", due -> {
            BurstDesk desk = new BurstDesk();
            // "state 2;begin 0 / r", then a byte of which all bits are 1.
            desk.feed(0x73746174, 0x6520323B, 0x62656769, 0x6E20302F, 0x207220FF);
            due.is("machine(19)", desk.machine(19), 0);
            due.is("code", desk.state(0, 0), 2);
            due.is("outputs", desk.state(0, 2), 4);
            // Bytes of 128 and more begin no TOKEN, though what is left of them without their highest bit may.
            desk.feed(0xF3746174, 0x6520323B, 0x62656769, 0x6E20302F, 0x20722020);
            due.is("machine(19), first byte 243", desk.machine(19), -1);
            due.is("where()", desk.where(), 0);
            desk.feed(0x73746174, 0x6520B23B, 0x62656769, 0x6E20302F, 0x20722020);
            due.is("machine(19), byte 6 is 178", desk.machine(19), -1);
            due.is("where()", desk.where(), 6);
            desk.feed(0x73746174, 0x652032BB, 0x62656769, 0x6E20302F, 0x20722020);
            due.is("machine(19), byte 7 is 187", desk.machine(19), -1);
            due.is("where()", desk.where(), 7);
            desk.feed(0x73746174, 0x65A0323B, 0x62656769, 0x6E20302F, 0x20722020);
            due.is("machine(19), byte 5 is 160", desk.machine(19), -1);
            due.is("where()", desk.where(), 5);
            desk.feed(0x73746174, 0x6520323B, 0x62656769, 0x6E20302F, 0x20720020);
            due.is("machine(19), byte 18 is 0", desk.machine(19), -1);
            due.is("where()", desk.where(), 18);
            desk.feed(-1, Integer.MIN_VALUE, Integer.MAX_VALUE, 0, -2);
            due.is("machine(20), extremes", desk.machine(20), -1);
            due.is("where()", desk.where(), 0);
        });
        Bounds.of(2, "how many it has", due -> {
            BurstDesk desk = new BurstDesk();
            for (int i = 1; i <= 30; i++) {
                due.is("feed " + i, desk.feed(i, -i, 0, -1, 1), 20 * i);
                due.is("size(4) behind feed " + i, desk.size(4), 20 * i);
            }
        });
        Bounds.of(2, "NONE, and none comes, if there would be more than 600", due -> {
            BurstDesk desk = new BurstDesk();
            Texts.feed(desk, " ".repeat(600 - SHORT.length()) + SHORT);
            due.is("size(4), full", desk.size(4), 600);
            due.is("feed when it is full", desk.feed(0, 0, 0, 0, 0), -1);
            due.is("feed again", desk.feed(1, 2, 3, 4, 5), -1);
            due.is("size(4), none came", desk.size(4), 600);
            due.is("machine(600), as it was told", desk.machine(600), 0);
            due.is("feed behind it", desk.feed(0, 0, 0, 0, 0), 20);
        });
    }

    // ---- 3

    private static void machine() {
        Bounds.of(3, "The first n bytes of THE TAPE", due -> {
            BurstDesk desk = new BurstDesk();
            Texts.feed(desk, "state 12;begin 0 / p q");
            due.is("machine(7) ends within a WHOLE", desk.machine(7), -1);
            due.is("fault()", desk.fault(), 6);
            Texts.feed(desk, "state 3;begin 0 / p;?");
            due.is("machine(19), ahead of ;", desk.machine(19), 0);
            due.is("outputs", desk.state(0, 2), 1);
            Texts.feed(desk, "state 3;begin 0 / p q");
            due.is("machine(20), ahead of q", desk.machine(20), 0);
            due.is("outputs", desk.state(0, 2), 1);
            Texts.feed(desk, "state 3;begin 0 / p q");
            due.is("machine(21), with q", desk.machine(21), 0);
            due.is("outputs", desk.state(0, 2), 3);
            Texts.feed(desk, "state 3;begin 0 / pq");
            due.is("machine(19), p of pq", desk.machine(19), 0);
            Texts.feed(desk, padded(SHORT, 600));
            due.is("machine(600), all of it", desk.machine(600), 0);
            Texts.feed(desk, SHORT);
            due.is("machine(0), none of it", desk.machine(0), -1);
            due.is("trouble()", desk.trouble(), 4);
            due.is("fault()", desk.fault(), 1);
            due.is("where()", desk.where(), 0);
            due.is("machine(0) of an empty TAPE", desk.machine(0), -1);
            due.is("trouble()", desk.trouble(), 4);
        });
        Bounds.of(3, "(it is empty then)", due -> {
            BurstDesk desk = new BurstDesk();
            Texts.feed(desk, padded(SHORT, 600));
            desk.machine(17);
            due.is("size(4) behind a part of 600", desk.size(4), 0);
            due.is("feed behind it", desk.feed(0, 0, 0, 0, 0), 20);
            due.is("machine(0), a FAULT", desk.machine(0), -1);
            due.is("size(4) behind a FAULT", desk.size(4), 0);
            // Nothing of what stood there is read again.
            desk.feed(0x20202020, 0x20202020, 0x20202020, 0x20202020, 0x20202020);
            due.is("machine(20), blanks", desk.machine(20), -1);
            due.is("where()", desk.where(), 20);
        });
        Bounds.of(3, "are the MACHINE from now on", due -> {
            BurstDesk desk = Desks.of(Desks.FULL);
            due.is("the small one", Texts.machine(desk, "state 1;begin 0 c / r"), 0);
            int[] sizes = {1, 0, 0, 0, 0, 0};
            for (int what = 0; what < 6; what++) {
                due.is("size(" + what + ")", desk.size(what), sizes[what]);
            }
            due.no(desk, "state(1, 0)", desk.state(1, 0), 1);
            due.no(desk, "arc(0, 0)", desk.arc(0, 0), 1);
            due.no(desk, "gate(0, 0)", desk.gate(0, 0), 1);
            due.told(desk, "state(0, 1)", desk.state(0, 1), 4);
            due.told(desk, "required(0)", desk.required(0), 0);
            due.told(desk, "required(2)", desk.required(2), 1);
            due.told(desk, "codings(4)", desk.codings(4), 4);
            due.is("the full one again", Texts.machine(desk, Desks.FULL), 8);
            due.told(desk, "codings(1)", desk.codings(1), 1);
            due.told(desk, "required(2)", desk.required(2), 0);
        });
        Bounds.of(3, "are the MACHINE from now on", due -> {
            // What was found of a FUNCTION of the one ahead counts no more, neither in number nor by what is left of it.
            BurstDesk desk = Desks.of(Desks.FALL);
            foundOf(due, desk, 1, 6, 2, 2, 2, 5);
            Texts.machine(desk, Desks.ALONE);
            foundOf(due, desk, 0, 1, 1, 1, 0, 1);
            Texts.machine(desk, "state 0;state 0;begin 0 b / p;arc 0 1 b- / p-");
            foundOf(due, desk, 1, 6, 1, 1, 1, 1);
            Texts.machine(desk, Desks.ALONE);
            foundOf(due, desk, 0, 1, 1, 1, 0, 1);
            Texts.machine(desk, Desks.BOTH);
            foundOf(due, desk, 1, 6, 3, 3, 6, 8);
            due.told(desk, "glitch(0)", desk.glitch(0), 0);
            Texts.machine(desk, Desks.FALL + ";gate p a';gate p b'");
            foundOf(due, desk, 1, 6, 2, 2, 2, 5);
            due.told(desk, "glitch(0): not by an ARC of the one ahead", desk.glitch(0), -2);
        });
        Bounds.of(3, "are the MACHINE from now on", due -> {
            // Made up and searched, not by hand: what is left of a FUNCTION looked at ahead could stand for a PRIME of r here.
            BurstDesk desk = Desks.of("state 0;state 0;state 0;begin 0 a b c / p r;arc 2 1 c+ / r+;arc 0 1 b- d+ / p- q+;"
                    + "arc 1 2 c- / r-");
            for (int f = 0; f < 5; f++) {
                due.is("fewest(" + f + ") of the one ahead is told", desk.fewest(f) >= 0, true);
            }
            Texts.machine(desk, "state 0;state 3;state 1;begin 0 a c / p r;arc 2 0 b- / p+ r+;arc 1 2 c+ d- / p- q-;"
                    + "arc 0 1 b+ c- d+ / q+ r-;arc 2 1 c- d+ / p+ q+");
            int[] fewest = {5, 3, 3, 2, 3};
            for (int f = 0; f < 5; f++) {
                due.told(desk, "fewest(" + f + ")", desk.fewest(f), fewest[f]);
            }
        });
        Bounds.of(3, "(nothing to undo)", due -> {
            BurstDesk desk = Desks.of(Desks.BOTH);
            for (int i = 0; i < 13; i++) {
                desk.recode(0, i % 4);
            }
            due.is("size(3)", desk.size(3), 12);
            due.is("machine", Texts.machine(desk, Desks.BOTH), 2);
            due.is("size(3) behind it", desk.size(3), 0);
            due.notUndone(desk);
            due.is("state(0, 0)", desk.state(0, 0), 0);
        });
        Bounds.of(3, "how many ARCS", due -> {
            BurstDesk desk = new BurstDesk();
            Texts.feed(desk, SHORT);
            due.told(desk, "machine, no ARC", desk.machine(SHORT.length()), 0);
            Texts.feed(desk, Desks.FALL);
            due.told(desk, "machine, one ARC", desk.machine(Desks.FALL.length()), 1);
            Texts.feed(desk, Desks.FULL);
            due.told(desk, "machine, eight ARCS", desk.machine(Desks.FULL.length()), 8);
        });
    }

    private static void foundOf(Bounds due, BurstDesk desk, int... found) {
        due.told(desk, "falls(0)", desk.falls(0), found[0]);
        due.told(desk, "primes(0)", desk.primes(0), found[1]);
        due.told(desk, "needed(0)", desk.needed(0), found[2]);
        due.told(desk, "fewest(0)", desk.fewest(0), found[3]);
        due.told(desk, "literals(0)", desk.literals(0), found[4]);
        due.told(desk, "formula(0)", desk.formula(0), found[5]);
    }

    private static void machineRefused() {
        Bounds.of(3, "NONE: 2 (THE TAPE stays)", due -> {
            BurstDesk desk = new BurstDesk();
            due.no(desk, "machine(1) of an empty TAPE", desk.machine(1), 2);
            due.no(desk, "machine(-1) of an empty TAPE", desk.machine(-1), 2);
            Texts.feed(desk, SHORT);
            for (int n : Bounds.outside(0, 20)) {
                due.no(desk, "machine(" + n + ") of twenty bytes", desk.machine(n), 2);
                due.is("size(4)", desk.size(4), 20);
            }
            due.told(desk, "machine(20), the TAPE stayed", desk.machine(20), 0);
            Texts.feed(desk, padded(SHORT, 600));
            due.no(desk, "machine(601) of 600 bytes", desk.machine(601), 2);
            due.is("size(4)", desk.size(4), 600);
            due.told(desk, "machine(600)", desk.machine(600), 0);
        });
        Bounds.of(3, "NONE: 2 (THE TAPE stays)", due -> {
            BurstDesk desk = Desks.of(Desks.WAYS);
            desk.add(0, 5);
            desk.push(1);
            String before = Bounds.portrait(desk);
            due.no(desk, "machine(1)", desk.machine(1), 2);
            due.is("the desk behind it", Bounds.portrait(desk), before);
        });
        Bounds.of(3, "4 (the MACHINE stays)", due -> {
            BurstDesk desk = Desks.of(Desks.WAYS);
            desk.add(0, 5);
            desk.push(1);
            String before = Bounds.portrait(desk);
            String text = "state 3;state 3;begin 1 a / r;arc 0 1 b+ / p-;gate s s;gate t;";
            Texts.feed(desk, text);
            due.no(desk, "machine, a FAULT at the end", desk.machine(text.length()), 4);
            due.is("the desk behind it", Bounds.portrait(desk), before);
            due.is("where it went on", desk.push(0), 1);
            due.undone(desk);
        });
    }

    // ---- 4

    private static void fault() {
        Bounds.of(4, "The FAULT of the latest machine() not refused by 2", due -> {
            BurstDesk desk = new BurstDesk();
            due.no(desk, "machine(1)", desk.machine(1), 2);
            due.is("fault() behind a refusal by 2 alone", desk.fault(), 0);
            Texts.machine(desk, "state 4");
            due.is("fault()", desk.fault(), 4);
            due.is("fault() again", desk.fault(), 4);
            due.no(desk, "machine(-1)", desk.machine(-1), 2);
            due.is("fault() behind a refusal by 2", desk.fault(), 4);
            desk.bad();
            due.is("fault() behind another call", desk.fault(), 4);
            Texts.machine(desk, "begin 0 /");
            due.is("fault() of the latest", desk.fault(), 2);
        });
        Bounds.of(4, "0 without one", due -> {
            BurstDesk desk = new BurstDesk();
            due.is("fault() of a new desk", desk.fault(), 0);
            Texts.machine(desk, "state 4");
            Texts.machine(desk, SHORT);
            due.is("fault() behind one without", desk.fault(), 0);
            desk.machine(99);
            due.is("fault() behind a refusal by 2", desk.fault(), 0);
            due.is("fault() of a BAD MACHINE", Desks.bad(1).fault(), 0);
        });
    }

    // ---- 5

    private static void where() {
        Bounds.of(5, "Its place, if the latest call that may be refused was by 4", due -> {
            BurstDesk desk = new BurstDesk();
            Texts.machine(desk, "?" + SHORT);
            due.is("where(), the first byte", desk.where(), 0);
            Texts.machine(desk, " ".repeat(599) + "?");
            due.is("where(), the last byte", desk.where(), 599);
            Texts.machine(desk, " ".repeat(600));
            due.is("where(), the end", desk.where(), 600);
            for (String name : Calls.SILENT.keySet()) {
                Calls.SILENT.get(name).on(desk);
                due.is("where() behind " + name, desk.where(), 600);
            }
        });
        Bounds.of(5, "NONE else", due -> {
            due.is("where() of a new desk", new BurstDesk().where(), -1);
            for (String name : Calls.TOLD.keySet()) {
                BurstDesk desk = Calls.prepared();
                desk.machine(0);
                due.is("where() behind a FAULT", desk.where(), 0);
                Calls.TOLD.get(name).on(desk);
                due.is("where() behind " + name, desk.where(), -1);
                due.is("trouble() behind " + name, desk.trouble(), name.equals("machine") ? 2 : 0);
            }
            for (String name : Calls.NEED_MACHINE) {
                BurstDesk desk = new BurstDesk();
                desk.machine(0);
                due.is("where() behind a FAULT", desk.where(), 0);
                Calls.TOLD.get(name).on(desk);
                due.is("where() behind " + name + ", refused", desk.where(), -1);
            }
        });
    }

    // ---- Terms II: TOKENS

    private static void tokens() {
        Bounds.ofTerm("II", "THE TEXT of a MACHINE (THE TAPE has 600 bytes", due -> {
            BurstDesk desk = new BurstDesk();
            String text = " ".repeat(600 - Desks.FULL.length()) + Desks.FULL;
            Texts.feed(desk, text);
            due.told(desk, "machine(600), a text up to the last byte", desk.machine(600), 8);
            due.told(desk, "its last gate", desk.gate(15, 1), Texts.cube("----10"));
        });
        Bounds.ofTerm("II", "blanks, 32, part TOKENS and mean nothing else", due -> {
            due.lawful("state0;begin0/");
            due.lawful("   state   0   ;   begin   0   /   ");
            due.lawful("state 0;begin 0 / p q;gate p a ' b '");
            due.lawful("state 0;arc 0 0 a + b - / p + ;begin 0 /");
            due.faulty("state 0;begin 0\t/", 1, 15);
            due.faulty("state 0;begin 0 /\n", 1, 17);
            due.faulty("state 0;begin 0 /\u0000", 1, 17);
            due.faulty("state 0;begin 0 /\u001f", 1, 17);
            due.faulty("state 0;begin 0 /!", 1, 17);
            due.faulty("state 0;begin 0 /\u00a0", 1, 17);
            due.faulty("sta te 0", 1, 0);
            due.faulty("state 0;begin 0 0 /", 1, 16);
        });
        Bounds.ofTerm("II", "TOKENS: WORDS of 1 to 5 small letters that stand together", due -> {
            due.lawful("state 0;begin 0 a/");
            due.faulty("statee 0", 1, 0);
            due.faulty("state 0;begin 0 / p;beginn", 1, 20);
            due.faulty("abcdef", 1, 0);
            due.faulty("state 0;begin 0 ab /", 1, 16);
            due.faulty("state 0;begin 0 / pq", 1, 18);
            due.faulty("state 0;begin 0 /;gate p st", 1, 25);
            due.faulty("state 0;begin 0 /;gate pa", 1, 23);
            due.faulty("state 0;begin 0 A /", 1, 16);
            due.faulty("state 0;begin 0 ` /", 1, 16);
            due.faulty("state 0;begin 0 { /", 1, 16);
            due.faulty("state 0;begin 0 z /", 1, 16);
        });
        Bounds.ofTerm("II", "WHOLES of 1 to 3 digits that do", due -> {
            due.lawful("state 3;begin 0 /");
            due.lawful("state 03;begin 00 /");
            due.lawful("state 003;begin 000 /");
            due.faulty("state 0003", 1, 6);
            due.faulty("state 0;begin 0000 /", 1, 14);
            due.faulty("state 0;arc 0000 0 a+ /", 1, 12);
            due.faulty("state 0 0", 1, 8);
            due.faulty("state :", 1, 6);
            due.faulty("state /", 1, 6);
        });
        Bounds.ofTerm("II", "single ones of ; / + - '", due -> {
            due.lawful("state 0;arc 0 0 a+b-/p+q-;begin 0/;gate p a'b'");
            due.faulty("state 0,begin 0 /", 1, 7);
            due.faulty("state 0:begin 0 /", 1, 7);
            due.faulty("state 0<begin 0 /", 1, 7);
            due.faulty("state 0;begin 0 .", 1, 16);
            due.faulty("state 0;arc 0 0 a* /", 1, 17);
            due.faulty("state 0;arc 0 0 a, /", 1, 17);
            due.faulty("state 0;begin 0 /;gate p a(", 1, 26);
            due.faulty("state 0;begin 0 /;gate p a&", 1, 26);
        });
    }

    // ---- Terms II: LINES

    private static void lines() {
        Bounds.ofTerm("II", "LINE {; LINE}. LINE, one of:", due -> {
            due.faulty("", 1, 0);
            due.faulty(";", 1, 0);
            due.faulty(" ;", 1, 1);
            due.faulty("state 0;begin 0 /;", 1, 18);
            due.faulty("state 0;;begin 0 /", 1, 8);
            due.faulty(";state 0;begin 0 /", 1, 0);
            due.faulty("state 0 begin 0 /", 1, 8);
            due.faulty("0", 1, 0);
            due.faulty("stat 0", 1, 0);
            due.faulty("xtate 0", 1, 0);
            due.faulty("statd 0", 1, 0);
            due.faulty("zegin 0 /", 1, 0);
            due.faulty("brc 0 0 a+ /", 1, 0);
            due.faulty("arcs 0", 1, 0);
            due.faulty("late p", 1, 0);
        });
        Bounds.ofTerm("II", "state WHOLE (its CODE, 0 .. 3, several may have one; numbered from 0; up to 6)", due -> {
            due.lawful(SIX_STATES);
            due.lawful("state 3;state 3;state 3;state 3;state 3;state 3;begin 5 /");
            due.faulty("state", 1, 5);
            due.faulty("state a", 1, 6);
            due.faulty("state;", 1, 5);
            due.faulty("state 0 a", 1, 8);
            BurstDesk desk = Desks.of(SIX_STATES);
            int[] codes = {0, 1, 2, 3, 0, 0};
            for (int i = 0; i < 6; i++) {
                due.told(desk, "state(" + i + ", 0)", desk.state(i, 0), codes[i]);
            }
        });
        Bounds.ofTerm("II", "begin STATE {INPUT} / {OUTPUT} (a STATE told ahead, where it begins; those that are 1 then, "
                + "each as a WORD of its letter; once)", due -> {
            due.lawful("state 0;begin 0 /");
            due.lawful("state 0;begin 0 d c b a / r q p");
            due.faulty("state 0;begin", 1, 13);
            due.faulty("state 0;begin 0", 1, 15);
            due.faulty("state 0;begin / p", 1, 14);
            due.faulty("state 0;begin 0 a b c d", 1, 23);
            due.faulty("state 0;begin 0 s /", 1, 16);
            due.faulty("state 0;begin 0 p /", 1, 16);
            due.faulty("state 0;begin 0 / s", 1, 18);
            due.faulty("state 0;begin 0 / d", 1, 18);
            due.faulty("state 0;begin 0 / / p", 1, 18);
            due.faulty("state 0;begin 0 / p+", 1, 19);
            BurstDesk none = Desks.of("state 0;begin 0 /");
            due.told(none, "no INPUT", none.state(0, 1), 0);
            due.told(none, "no OUTPUT", none.state(0, 2), 0);
            BurstDesk all = Desks.of("state 0;begin 0 a b c d / p q r");
            due.told(all, "all INPUTS", all.state(0, 1), 15);
            due.told(all, "all OUTPUTS", all.state(0, 2), 7);
        });
        Bounds.ofTerm("II", "arc STATE STATE CHANGE {CHANGE} / {CHANGE} (from, to, told ahead; CHANGE: a letter, then + "
                + "or -: it becomes 1, or 0; ahead of / INPUTS, behind it OUTPUTS; numbered from 0; up to 8)", due -> {
            due.lawful(EIGHT_ARCS);
            due.lawful("state 0;begin 0 /;arc 0 0 a+ b- c+ d- / p- q+ r-");
            due.faulty("state 0;arc", 1, 11);
            due.faulty("state 0;arc 0", 1, 13);
            due.faulty("state 0;arc 0 0", 1, 15);
            due.faulty("state 0;arc 0 0 /", 1, 16);
            due.faulty("state 0;arc 0 0 a", 1, 17);
            due.faulty("state 0;arc 0 0 a /", 1, 18);
            due.faulty("state 0;arc 0 0 a+", 1, 18);
            due.faulty("state 0;arc 0 0 a+;", 1, 18);
            due.faulty("state 0;arc 0 0 a+-", 1, 18);
            due.faulty("state 0;arc 0 0 a'", 1, 17);
            due.faulty("state 0;arc 0 0 s+", 1, 16);
            due.faulty("state 0;arc 0 0 p+", 1, 16);
            due.faulty("state 0;arc 0 0 a+ / p", 1, 22);
            due.faulty("state 0;arc 0 0 a+ / p;", 1, 22);
            due.faulty("state 0;arc 0 0 a+ / a+", 1, 21);
            due.faulty("state 0;arc 0 0 a+ / t+", 1, 21);
            due.faulty("state 0;arc a+ /", 1, 12);
            due.faulty("state 0;arc 0 a+ /", 1, 14);
            due.faulty("state 0;arc 0 0 0 a+ /", 1, 16);
        });
        Bounds.ofTerm("II", "gate FUNCTION {LITERAL} (its letter; LITERAL: a .. d, s, t, that must be 1, or with ' behind "
                + "it: 0; numbered from 0; up to 16)", due -> {
            due.lawful(SIXTEEN_GATES);
            due.lawful("state 0;begin 0 /;gate p;gate q;gate r;gate s;gate t");
            due.lawful("state 0;begin 0 /;gate t a'b'c'd's't'");
            due.faulty("gate", 1, 4);
            due.faulty("gate;", 1, 4);
            due.faulty("gate a", 1, 5);
            due.faulty("gate 0", 1, 5);
            due.faulty("gate '", 1, 5);
            due.faulty("gate p '", 1, 7);
            due.faulty("gate p a''", 1, 9);
            due.faulty("gate p a+", 1, 8);
            due.faulty("gate p e", 1, 7);
            due.faulty("gate p p", 1, 7);
            due.faulty("gate p a 0", 1, 9);
            BurstDesk desk = Desks.of("state 0;begin 0 /;gate t a'b'c'd's't';gate p;gate q a b c d s t");
            due.told(desk, "all must be 0", desk.gate(0, 1), 0);
            due.told(desk, "all may be any", desk.gate(1, 1), 728);
            due.told(desk, "all must be 1", desk.gate(2, 1), 364);
        });
    }

    // ---- Terms II: FAULTS

    private static void faults() {
        Bounds.ofTerm("II", "1 FORM: the first byte that begins no TOKEN, or TOKEN with which no MACHINE goes on "
                + "(the end: its place).", due -> {
            due.faulty("?", 1, 0);
            due.faulty("state 0;begin 0 /;gate p a?", 1, 26);
            due.faulty("state 0;begin 0 /;gate p abcdst", 1, 25);
            due.faulty("state 0;begin 0 /;+", 1, 18);
            due.faulty("state 0;begin 0 / 3", 1, 18);
            due.faulty("state", 1, 5);
            due.faulty("state   ", 1, 8);
            due.faulty("     ", 1, 5);
        });
        Bounds.ofTerm("II", "2 a STATE that isn't told (whatever the WHOLE); at it.", due -> {
            due.faulty("begin 0 /", 2, 6);
            due.faulty("begin 0", 2, 6);
            due.faulty("state 0;begin 1 /", 2, 14);
            due.faulty("state 0;begin 999 /", 2, 14);
            due.faulty("state 0;begin 6 /", 2, 14);
            due.faulty("state 0;begin 001 /", 2, 14);
            due.faulty("begin 0 /;state 0", 2, 6);
            due.faulty("arc 0 0 a+ /", 2, 4);
            due.faulty("state 0;arc 1 0 a+ /;state 0", 2, 12);
            due.faulty("state 0;arc 0 1 a+ /;state 0", 2, 14);
            due.faulty("state 0;arc 0 999 a+ /", 2, 14);
            due.faulty("state 0;state 0;state 0;state 0;state 0;state 0;begin 6 /", 2, 54);
            due.lawful("state 0;state 0;state 0;state 0;state 0;state 0;begin 5 /;arc 5 0 a+ /;arc 0 5 a- /");
        });
        Bounds.ofTerm("II", "3 a letter again (of one side of / in a begin, an arc; among the LITERALS of a gate), at it",
                due -> {
            due.faulty("state 0;begin 0 a a /", 3, 18);
            due.faulty("state 0;begin 0 a b c d d /", 3, 24);
            due.faulty("state 0;begin 0 / p p", 3, 20);
            due.faulty("state 0;begin 0 / p q r r", 3, 24);
            due.faulty("state 0;arc 0 0 a+ a+ /", 3, 19);
            due.faulty("state 0;arc 0 0 a+ a- /", 3, 19);
            due.faulty("state 0;arc 0 0 d- d /", 3, 19);
            due.faulty("state 0;arc 0 0 a+ b+ c+ d+ a+ /", 3, 28);
            due.faulty("state 0;arc 0 0 a+ / r- r+", 3, 24);
            due.faulty("state 0;arc 0 0 a+ / p+ q+ r+ p+", 3, 30);
            due.faulty("gate p a a", 3, 9);
            due.faulty("gate p t t'", 3, 9);
            due.faulty("gate p t' t", 3, 10);
            due.faulty("gate p a b c d s t s", 3, 19);
            due.lawful("state 0;begin 0 a /;gate s s;gate s s;gate t s t");
            due.lawful("state 0;begin 0 a b c d / p q r;arc 0 0 a- / p-;arc 0 0 a- / p-");
        });
        Bounds.ofTerm("II", "a second begin, at that WORD.", due -> {
            due.faulty("state 0;begin 0 /;begin 0 /", 3, 18);
            due.faulty("state 0;begin 0 /;begin", 3, 18);
            due.faulty("state 0;begin 0 /;begin 9 ?", 3, 18);
            due.faulty("state 0;begin 0 /; begin", 3, 19);
            due.faulty("state 0;begin 0 /;gate p;begin 0 /", 3, 25);
        });
        Bounds.ofTerm("II", "4 a CODE out of bounds; at it.", due -> {
            due.lawful("state 0;state 3;begin 0 /");
            due.faulty("state 4", 4, 6);
            due.faulty("state 004;begin 0 /", 4, 6);
            due.faulty("state 10", 4, 6);
            due.faulty("state 256", 4, 6);
            due.faulty("state 999", 4, 6);
            due.faulty("state 0;begin 0 /;state 4", 4, 24);
        });
        Bounds.ofTerm("II", "5 MANY: a LINE more of its sort than there is room for, at its first WORD.", due -> {
            due.faulty(SIX_STATES + ";state 0", 5, SIX_STATES.length() + 1);
            due.faulty(SIX_STATES + ";state", 5, SIX_STATES.length() + 1);
            due.faulty(SIX_STATES + ";state 9", 5, SIX_STATES.length() + 1);
            due.faulty(EIGHT_ARCS + ";arc 0 1 a+ /", 5, EIGHT_ARCS.length() + 1);
            due.faulty(EIGHT_ARCS + ";arc 7", 5, EIGHT_ARCS.length() + 1);
            due.faulty(SIXTEEN_GATES + ";gate p", 5, SIXTEEN_GATES.length() + 1);
            due.faulty(SIXTEEN_GATES + "; gate", 5, SIXTEEN_GATES.length() + 2);
            due.lawful(Desks.FULL);
            due.faulty(Desks.FULL + ";state 0", 5, Desks.FULL.length() + 1);
            due.faulty(Desks.FULL + ";arc 0 1 b+ /", 5, Desks.FULL.length() + 1);
            due.faulty(Desks.FULL + ";gate p", 5, Desks.FULL.length() + 1);
        });
        Bounds.ofTerm("II", "6 LACKS: at the end: no begin.", due -> {
            due.faulty("state 0", 6, 7);
            due.faulty("state 0;gate p a'", 6, 17);
            due.faulty("gate t", 6, 6);
            due.faulty("state 0;arc 0 0 a+ /", 6, 20);
            due.faulty("state 0   ", 6, 10);
            due.faulty("state 0" + " ".repeat(593), 6, 600);
        });
    }

    private static void places() {
        Bounds.ofTerm("II", "FAULTS, the first that is met from the left, of one place the least number", due -> {
            // Of one place: the end that goes not on, and lacks a begin.
            due.faulty("state 0;", 1, 8);
            due.faulty("", 1, 0);
            due.faulty("gate p;", 1, 7);
            // From the left: what is behind the first one doesn't count.
            due.faulty("state 4;?", 4, 6);
            due.faulty("state 4?", 4, 6);
            due.faulty("? state 4", 1, 0);
            due.faulty("begin 0 a a", 2, 6);
            due.faulty("state 0;begin 1 a a", 2, 14);
            due.faulty("state 0;begin 0 a a ?", 3, 18);
            due.faulty("state 0;begin 0 a x a", 1, 18);
            due.faulty("state 0;arc 0 0 a+ a+ / p", 3, 19);
            due.faulty("state 0;arc 0 2 a+ a+ / p", 2, 14);
            due.faulty("gate p a a'' ", 3, 9);
            due.faulty("gate p a'' a", 1, 9);
        });
    }
}
