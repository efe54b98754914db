/** The edges of promises 35 to 40, and of what the terms say of kinds, asks and refusals. */
final class AskEdges extends Edges {
    private static final String SORTS = "ksedg";

    private AskEdges() {
    }

    static void run() {
        kinds();
        kind();
        as();
        sizes();
        marks();
        bodies();
        ask();
        trace();
        count();
        status();
        refusals();
    }

    private static String[] one(char sort) {
        return new String[] {"read q0,0,0;waaa;" + sort + "7;"};
    }

    private static void kinds() {
        terms("KINDS of GUARDS: 0 GUARD; 1 KEEN, a GUARD; 2 SHARP, a KEEN; 3 SLEEPY, a KEEN; 4 DEAF, a GUARD; 5 SERGEANT, a DEAF."
            + " By this it is asked.");
        String[] is = {"01", "012", "013", "04", "045"};
        for (int i = 0; i < SORTS.length(); i++) {
            for (int kind = 0; kind <= 5; kind++) {
                boolean so = is[i].indexOf('0' + kind) >= 0;
                told(one(SORTS.charAt(i)), "as(0, " + kind + ")", so ? 0 : KIND);
            }
        }
    }

    private static void kind() {
        promise(35, "The KIND of a GUARD, as told (1 to 5).");
        for (int i = 0; i < SORTS.length(); i++) {
            told(one(SORTS.charAt(i)), "kind(0)", i + 1);
            told(with(one(SORTS.charAt(i)), "dismiss(0, 0)", "as(0, 0)"), "kind(0)", i + 1);
        }
        promise(35, "BAD.");
        bounds(BUSY, "kind(#)", 0, 3);
        bounds(one('g'), "kind(#)", 0, 0);
        refused(NO_GATE, BAD, "kind(0)", "kind(-1)");
    }

    private static void as() {
        promise(36, "A GUARD is taken as one of a KIND (0 .. 5): its number.");
        for (int guard = 0; guard < 4; guard++) {
            told(BUSY, "as(" + guard + ", 0)", guard);
        }
        told(BUSY, "as(1, 1)", 1);
        told(BUSY, "as(1, 2)", 1);
        told(BUSY, "as(2, 4)", 2);
        told(BUSY, "as(3, 4)", 3);
        told(BUSY, "as(3, 5)", 3);
        promise(36, "BAD");
        bounds(BUSY, "as(#, 0)", 0, 3);
        bounds(BUSY, "as(0, #)", 0, 5);
        refused(BUSY, BAD, "as(4, 5)", "as(-1, 5)", "as(4, 6)");
        refused(NO_GATE, BAD, "as(0, 0)", "as(0, 6)", "as(-1, 0)");
        promise(36, "KIND: it is no such one.");
        refused(BUSY, KIND, "as(0, 2)", "as(0, 3)", "as(0, 4)", "as(0, 5)", "as(1, 3)", "as(2, 5)", "as(2, 1)", "as(3, 1)");
    }

    private static void asked(Calls x, String ask, int want, int... bodies) {
        x.due(ask, want);
        for (int i = 0; i < bodies.length; i++) {
            x.due("trace(" + i + ")", bodies[i]);
        }
        x.due("trace(" + bodies.length + ")", NONE);
    }

    /** Five guards are more than there is room for: the sleepy one stands at the place of the keen one. */
    private static Calls guards(char first) {
        // Each takes the word once, at hours 0 to 3, and the first one once more, at 4.
        return after("read q0,0,0;waaa;" + first + "3;s5;d2;g9;", "say(0, 0)", "say(0, 1)", "say(0, 2)", "say(0, 3)", "say(0, 4)");
    }

    private static void sizes() {
        terms("4 ASKS of GUARDS, by BODIES, each of which leaves its number in THE TRACE as it begins (the first 16): 0 SIZE: 10 lent to all"
            + " GUARDS: FEE. 11 of KEEN ones: what 10 gives, and MARK. 12 of SHARP ones: 0 less what 11 gives. 13 of DEAF ones: what 10 gives,"
            + " less 100. 14 of SERGEANTS: what 13 gives, twice.");
        asked(guards('k'), "ask(0, 0)", 3 + (0 + 2), 11, 10, 21, 20);
        asked(guards('e'), "ask(0, 0)", 3 + (0 + 2 - 1000), 11, 10, 22, 21, 20);
        asked(guards('k'), "ask(1, 0)", -(5 + 2 * (1 + 1)), 12, 11, 10, 24, 21, 20);
        asked(guards('k'), "ask(2, 0)", 2 - 100, 13, 10);
        asked(guards('k'), "ask(3, 0)", 2 * (9 - 100), 14, 13, 10);
        asked(after("read " + ONE), "ask(0, 0)", 0, 11, 10, 21, 20);
        asked(after("read q0,0,0;waaa;d0;"), "ask(0, 0)", -100, 13, 10);
        asked(after("read q0,0,0;waaa;g0;"), "ask(0, 0)", -200, 14, 13, 10);
        asked(after("read q0,0,0;waaa;s0;"), "ask(0, 0)", 0, 12, 11, 10, 24, 21, 20);
    }

    private static void marks() {
        terms("1 MARK: 20 lent to all GUARDS: the number. 21 of KEEN ones: what 20 gives, and how many he TOOK. 22 of SLEEPY ones: what 21 gives,"
            + " less 1000. 23 of DEAF ones: what 20 gives, less SIZE. 24 of SHARP ones: what 21 gives, twice.");
        asked(guards('k'), "ask(0, 1)", 0 + 2, 21, 20);
        asked(guards('e'), "ask(0, 1)", 0 + 2 - 1000, 22, 21, 20);
        asked(guards('k'), "ask(1, 1)", 2 * (1 + 1), 24, 21, 20);
        asked(guards('k'), "ask(2, 1)", 2 - (2 - 100), 23, 20, 13, 10);
        asked(guards('k'), "ask(3, 1)", 3 - 2 * (9 - 100), 23, 20, 14, 13, 10);
        asked(after("read " + ONE), "ask(0, 1)", 0, 21, 20);
        // TOOK counts as it is now, whoever was undone.
        asked(guards('k').then("undo()"), "ask(0, 1)", 0 + 1, 21, 20);
        asked(guards('k').then("nights(1)", "dismiss(0, 0)"), "ask(0, 1)", 0 + 2, 21, 20);
    }

    private static void bodies() {
        terms("(Of an ask the BODY told for the KIND begins, else that of the nearest KIND that it is, too, else the one that is lent;"
            + " SIZE, MARK within others are asked of the same GUARD anew.)");
        // SIZE of a sleepy one is that of a keen one, but MARK within it his own; MARK of a sergeant is that of a deaf one, but SIZE his own.
        asked(after("read q0,0,0;waaa;k0;e4;"), "ask(1, 0)", 4 + (1 - 1000), 11, 10, 22, 21, 20);
        asked(after("read q0,0,0;waaa;k0;g4;"), "ask(1, 1)", 1 - 2 * (4 - 100), 23, 20, 14, 13, 10);
        asked(after("read q0,0,0;waaa;k0;s4;"), "ask(1, 0)", -(4 + 2 * 1), 12, 11, 10, 24, 21, 20);
    }

    private static void ask() {
        promise(37, "An ASK (0, 1) of a GUARD.");
        after(BUSY).due("ask(3, 0)", -182).due("ask(3, 1)", 3 + 182).due("status()", 1).due("count(6)", 6);
        promise(37, "BAD.");
        bounds(BUSY, "ask(#, 0)", 0, 3);
        bounds(BUSY, "ask(0, #)", 0, 1);
        bounds(one('s'), "ask(#, 1)", 0, 0);
        refused(NO_GATE, BAD, "ask(0, 0)", "ask(-1, 0)", "ask(0, 2)");
        promise(37, "THE TRACE is empty ahead of it.");
        asked(after(BUSY).due("trace(5)", 20), "ask(2, 0)", -98, 13, 10);
        after(BUSY).then("ask(2, 0)").due("trace(2)", NONE).due("trace(5)", NONE);
        // What is refused leaves it.
        after(BUSY).due("ask(4, 0)", BAD).due("ask(0, 2)", BAD).due("trace(0)", 12).due("trace(5)", 20);
    }

    private static void trace() {
        promise(38, "Number i of THE TRACE; NONE.");
        int[] bodies = {12, 11, 10, 24, 21, 20};
        for (int i = 0; i < bodies.length; i++) {
            told(BUSY, "trace(" + i + ")", bodies[i]);
        }
        for (String beyond : new String[] {"6", "7", "15", "16", "17", "-1", "MIN", "MAX"}) {
            told(BUSY, "trace(" + beyond + ")", NONE);
            told(NO_GATE, "trace(" + beyond + ")", NONE);
        }
        told(NO_GATE, "trace(0)", NONE);
        told(GATE, "trace(0)", NONE);
        told(with(NO_GATE, "ask(0, 0)"), "trace(0)", NONE);
    }

    private static void count() {
        promise(39, "How many: 0 ROWS, 1 WORDS, 2 GUARDS, 3 the NIGHT, 4 tries of TONIGHT, 5 who is there (bits), 6 ACTS that can be undone,"
            + " 7 bytes on the tape, 8 START, 9 all that GUARDS TOOK.");
        int[] busy = {3, 5, 4, 1, 2, 11, 6, 4, 4, 2};
        int[] noGate = {1, 0, 0, 0, 0, 0, 0, 2, 0, 0};
        for (int what = 0; what < 10; what++) {
            told(BUSY, "count(" + what + ")", busy[what]);
            told(NO_GATE, "count(" + what + ")", noGate[what]);
            told(NEW, "count(" + what + ")", 0);
        }
        // All at their most.
        Calls x = after("read " + MOST, "41 * nights(24)", "nights(15)", "9 * say(0, 0)", "100 * feed(0)");
        for (int row = 0; row < 8; row++) {
            x.then("row(" + row + ", 0, 0)");
        }
        // Night 999: 999 is 5 by 7, and 9000 leaves 0 over by 6; the deaf one is on at hour 0.
        int[] most = {8, 6, 4, 999, 9, 15, 24, 100, 9, 9};
        for (int what = 0; what < 10; what++) {
            x.due("count(" + what + ")", most[what]);
        }
        promise(39, "BAD.");
        bounds(BUSY, "count(#)", 0, 9);
        bounds(NEW, "count(#)", 0, 9);
    }

    private static void status() {
        promise(40, "Of the latest call with a ROW, or as(), that was not BAD, STATE, FULL: the number of its FINDING;");
        String[] findings = {"set(3, 0, 0)", "set(0, 3, 0)", "as(0, 5)", "row(0, 0, -1)", "copy(0, 0, 2, 0, 1)"};
        String[] wells = {"row(5, 0, 0)", "set(0, 0, 0)", "copy(0, 0, 0, 0, 0)", "drop(0)", "march(0, 0, 1, -1)", "rules(0, 0, 1, 0)",
            "fits(0, 7, 0, 0)", "as(0, 0)"};
        String[] refusals = {"row(8, 0, 1)", "set(8, 0, 0)", "copy(0, 0, 8, 0, 0)", "drop(8)", "march(8, 0, 1, -1)", "march(0, 0, 7, 0)",
            "rules(0, 0, 17, 0)", "fits(4, 0, 0, 0)", "as(0, 6)", "as(4, 0)", "feed(256)", "nights(0)", "undo()", "restore(1)", "dismiss(0, 1)"};
        String[] others = {"feed(0)", "gate()", "fault()", "nights(1)", "say(0, 0)", "start(0)", "dismiss(0, 0)", "undo()", "letter(0, 0)",
            "like(0, 0, 0)", "guard(0, 0)", "tried(0, 0)", "secret(0)", "taken(0, 0, 0)", "safe(0, 0)", "open(0, 0)", "next(0)", "agree()",
            "man(0)", "fewest()", "cheap(0, 0, 0)", "near(0, 0)", "sure(0, 0, 0, 0)", "drawn(1, 1, 0)", "image(0)", "restore(0)", "kind(0)",
            "ask(0, 0)", "trace(0)", "count(0)", "status()"};
        for (int i = 0; i < findings.length; i++) {
            Calls x = after(BUSY, "drop(2)", "row(2, 2, 2)").due("status()", 0).then(findings[i]).due("status()", i + 1).then(refusals);
            x.due("status()", i + 1).then(others).due("status()", i + 1).then(wells[i]).due("status()", 0);
        }
        for (String well : wells) {
            after(BUSY).due("status()", 1).then(well).due("status()", 0).then(refusals).then(others).due("status()", 0);
        }
        for (String call : new String[] {"march(0, 0, 4, 0)", "rules(0, 0, 4, 0)", "fits(0, 0, 0, 0)", "copy(0, 0, 0, 0, 4)"}) {
            after(BUSY).then(call).due("status()", 2);
        }
        for (String call : new String[] {"march(1, 0, 1, 0)", "rules(1, 0, 1, 0)", "fits(0, 1, 0, 0)", "copy(0, 0, 1, 0, 1)", "drop(1)"}) {
            after(BUSY, "as(0, 5)").then(call).due("status()", 1);
        }
        promise(40, "0: it had none, or there was none.");
        told(NEW, "status()", 0);
        told(GATE, "status()", 0);
        after(GATE, "row(8, 0, -1)", "as(9, 0)", "fits(0, 8, 0, 0)").due("status()", 0);
        // NONE is no finding.
        after(BUSY, "fill 1 0 99").then("set(3, 0, 0)").due("march(1, 0, 1, -1)", NONE).due("status()", 0);
    }

    private static void refusals() {
        terms("Numbers go from 0 on.");
        after(BUSY).due("letter(0, 0)", 0).due("guard(0, 0)", 3).due("tried(0, 0)", 3).due("rules(0, 0, 1, 1)", 4 + 128).due("trace(0)", 12);
        terms("Sets are bits.");
        after(BUSY).due("count(5)", 1 + 2 + 8).due("agree()", 8).due("safe(2, 0)", 8).due("open(8, 0)", 63).due("cheap(2, 0, 1)", 1 + 2 + 8);
        terms("Refusals are answers, the first of these that fits, but as told: BAD (a number is not as told; there is no such thing),"
            + " STATE (as told), FULL (as told), then FINDINGS, of several the first in time:");
        refused(NO_GATE, "image(2)", BAD);
        refused(NO_GATE, "restore(2)", BAD);
        refused(BUSY, "dismiss(2, 2)", BAD);
        refused(with(GATE, "9 * say(1, 0)"), "say(5, 0)", BAD);
        refused(with(NEW, "100 * feed(0)"), "feed(256)", BAD);
        refused(BUSY, "row(8, 0, -1)", BAD);
        refused(BUSY, "copy(1, 0, 8, 0, 1)", BAD);
        refused(BUSY, "fits(4, 1, 0, 0)", BAD);
        refused(NO_GATE, "march(1, 0, 1, 0)", STATE);
        refused(BUSY, "copy(1, -1, 0, 0, 1)", NULL);
        refused(BUSY, "copy(0, -1, 2, 0, 1)", STORE);
        terms("-1000010 less 1 NULL (a ROW that is missing), 2 PLACE (no such place of a ROW), 3 KIND (a GUARD that is not that),"
            + " 4 SIZE (fewer than none), 5 STORE (ROWS of two LANES).");
        refused(BUSY, "set(1, 0, 0)", -1000011);
        refused(BUSY, "set(0, 3, 0)", -1000012);
        refused(BUSY, "as(0, 2)", -1000013);
        refused(BUSY, "row(0, 0, -1)", -1000014);
        refused(BUSY, "copy(0, 0, 2, 0, 0)", -1000015);
        terms("What is refused, or found, changes nothing but status().");
        // All that can be refused of each call is so by the tests of its own promise; here, many behind one another.
        String[] many = {"row(0, 0, 41)", "row(0, 0, -1)", "set(0, 3, 5)", "copy(0, 0, 0, 1, 3)", "drop(8)", "feed(256)", "nights(25)", "say(5, 0)",
            "start(10)", "dismiss(2, 0)", "image(2)", "restore(1)", "as(0, 5)", "ask(4, 0)", "march(0, 0, 4, 0)", "rules(0, 0, 4, 0)",
            "fits(0, 0, 0, 0)", "copy(0, 0, 2, 0, 1)", "set(1, 0, 0)"};
        same(after(BUSY, many).view(), after(BUSY).view(), "many refusals");
    }
}
