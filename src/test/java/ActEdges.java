/** The edges of promises 1, 9 to 13, 17, 33 and 34, and of what the terms say of acts. */
final class ActEdges extends Edges {
    /** Night 984; 15 more may go by. */
    private static final String[] LATE = {"read " + FIVE, "41 * nights(24)", "set(3, 0, 0)"};
    private static final String[] LAST = with(LATE, "nights(15)");
    private static final String[] NINE = {"read " + FIVE, "9 * say(1, 0)", "set(3, 0, 0)"};

    private ActEdges() {
    }

    static void run() {
        newObject();
        actsAreKept();
        nights();
        nightsAreRefused();
        say();
        tries();
        start();
        dismiss();
        undo();
        tried();
        image();
        restore();
    }

    private static void newObject() {
        promise(1, "No GATE.");
        Calls x = after();
        for (int what = 0; what < 10; what++) {
            x.due("count(" + what + ")", 0);
        }
        x.due("secret(0)", STATE).due("agree()", STATE).due("image(0)", STATE).due("image(1)", STATE).due("restore(0)", STATE);
        x.due("restore(1)", STATE).due("undo()", STATE).due("fault()", 0).due("status()", 0).due("trace(0)", NONE);
        x.due("letter(0, 0)", BAD).due("guard(0, 0)", BAD).due("kind(0)", BAD).due("tried(0, 0)", BAD);
    }

    /** That an act, made and undone as often, leaves all as it was. */
    private static void undone(String[] state, String act, int times) {
        same(after(state, act, times + " * undo()").view(), after(state).view(), act + ", undone");
    }

    private static void actsAreKept() {
        terms("ACTS (24 at most are kept, of more the oldest is forgotten; each can be undone, the latest first):");
        Calls x = after("read " + FIVE, "start(5)").due("nights(23)", (5 + 46) % 5).due("count(6)", 24);
        for (int left = 23; left >= 1; left--) {
            x.due("undo()", left).due("count(3)", left - 1).due("count(8)", 5);
        }
        x.due("undo()", 0).due("count(8)", 1).due("undo()", STATE).due("count(6)", 0);
        Calls y = after("read " + FIVE, "start(5)", "nights(24)").due("count(6)", 24).then("23 * undo()");
        y.due("undo()", 0).due("count(3)", 0).due("count(8)", 5).due("undo()", STATE).due("count(8)", 5);
        // The oldest is forgotten one by one, whatever came in between.
        Calls z = after("read " + FIVE, "nights(20)", "3 * undo()", "nights(9)", "5 * undo()", "nights(24)");
        z.due("count(3)", 45).due("count(6)", 24).then("24 * undo()").due("count(3)", 21).due("undo()", STATE);
        terms("a NIGHT goes by (nobody has tried TONIGHT then);");
        after(NINE).due("count(4)", 9).due("nights(1)", 3).due("count(4)", 0).due("tried(0, 0)", BAD).due("agree()", 31).due("count(9)", 9);
        undone(BUSY, "nights(1)", 1);
        terms("START is another; a GUARD is DISMISSED, or there again.");
        undone(BUSY, "start(9)", 1);
        undone(BUSY, "dismiss(0, 0)", 1);
        undone(BUSY, "dismiss(2, 1)", 1);
    }

    private static void nights() {
        promise(9, "n NIGHTS (1 to 24) go by, an ACT each: the SECRET then.");
        bounds(GATE, "nights(#)", 1, 24);
        after(GATE).due("nights(1)", 3).due("count(3)", 1).due("count(6)", 1);
        after(GATE).due("nights(2)", 0).due("count(3)", 2).due("count(6)", 2);
        // 46 and 1 leave 2 over by 5; 24 leaves 3 over by 7, SHROVE.
        after(GATE).due("nights(23)", 2).due("count(3)", 23).due("count(6)", 23);
        after(GATE).due("nights(24)", 0).due("count(3)", 24).due("count(6)", 24).due("status()", 0);
        after("read " + ONE).due("nights(24)", 0);
        undone(BUSY, "nights(3)", 3);
        promise(9, "BAD");
        refused(BUSY, BAD, "nights(0)", "nights(25)", "nights(-1)", "nights(MIN)", "nights(MAX)");
    }

    private static void nightsAreRefused() {
        promise(9, "STATE: no GATE (ahead of BAD)");
        refused(NO_GATE, STATE, "nights(1)", "nights(24)", "nights(0)", "nights(25)", "nights(MIN)", "nights(MAX)");
        promise(9, "FULL: beyond NIGHT 999.");
        refused(LATE, FULL, "nights(16)", "nights(24)");
        refused(LATE, BAD, "nights(25)", "nights(0)");
        after(LATE).due("count(3)", 984).due("nights(15)", (1 + 2 * 999) % 5).due("count(3)", 999);
        refused(LAST, FULL, "nights(1)", "nights(2)", "nights(24)");
        refused(LAST, BAD, "nights(0)", "nights(25)", "nights(MAX)", "nights(MIN)");
        after(LAST).due("undo()", 23).due("count(3)", 998).due("nights(1)", 4).due("nights(1)", FULL);
        after(LATE, "9 * undo()").due("count(3)", 975).due("nights(24)", 4).due("count(3)", 999);
        after(LATE, "8 * undo()").due("count(3)", 976).due("nights(24)", FULL).due("count(3)", 976).due("nights(23)", 4);
        // Other acts go on at the last night.
        after(LAST).due("say(4, 0)", 1).due("start(0)", 1).due("dismiss(3, 0)", 7).due("count(6)", 24);
    }

    private static void say() {
        promise(10, "One tries: 1 taken, 0 IN.");
        after(GATE).due("say(1, 0)", 1).due("say(0, 0)", 0).due("count(4)", 2).due("count(6)", 2).due("count(9)", 1);
        after(GATE).due("say(4, 5)", 0).due("say(0, 5)", 1).due("guard(1, 1)", 1).due("guard(0, 1)", 0);
        undone(BUSY, "say(1, 5)", 1);
        undone(BUSY, "say(0, 0)", 1);
        promise(10, "BAD");
        bounds(BUSY, "say(#, 0)", 0, 4);
        bounds(BUSY, "say(0, #)", 0, 5);
        bounds(with(NEW, "read " + ONE), "say(#, 0)", 0, 0);
        bounds(with(NEW, "read " + MOST), "say(#, 0)", 0, 5);
        refused(NO_GATE, BAD, "say(0, 0)", "say(-1, 0)", "say(0, 6)", "say(6, 6)");
        promise(10, "FULL: 9 tried TONIGHT.");
        refused(NINE, FULL, "say(1, 0)", "say(0, 0)", "say(4, 5)");
        refused(NINE, BAD, "say(5, 0)", "say(-1, 0)", "say(1, 6)", "say(1, -1)");
        after("read " + FIVE, "8 * say(1, 0)").due("say(1, 0)", 1).due("count(4)", 9).due("say(1, 0)", FULL).due("guard(0, 1)", 9);
        after(NINE).due("undo()", 8).due("say(0, 1)", 1).due("say(0, 1)", FULL);
        after(NINE).due("nights(1)", 3).due("say(3, 0)", 1).due("count(4)", 1);
        refused(with(GATE, "dismiss(0, 0)", "9 * say(1, 0)"), FULL, "say(1, 1)");
        after(NINE).then("image(0)", "nights(1)", "restore(0)").due("say(1, 0)", FULL);
    }

    private static void tries() {
        terms("one tries, saying a WORD at an HOUR (9 at most a NIGHT; the GUARD TOOK 1 more, if he is taken);");
        Calls x = after(GATE).due("say(1, 0)", 1).due("say(1, 1)", 1).due("say(1, 2)", 1).due("say(1, 3)", 1).due("say(1, 4)", 1);
        x.due("guard(0, 1)", 2).due("guard(1, 1)", 1).due("guard(2, 1)", 1).due("guard(3, 1)", 1).due("count(9)", 5);
        x.due("say(3, 0)", 0).due("say(3, 1)", 0).due("say(3, 2)", 0).due("say(3, 3)", 0).due("count(9)", 5).due("count(4)", 9);
        x.due("say(1, 0)", FULL).due("count(9)", 5).due("nights(1)", 3).due("count(9)", 5).due("say(3, 0)", 1).due("count(9)", 6);
        after(GATE, "dismiss(0, 0)").due("say(1, 0)", 0).due("count(9)", 0).due("count(4)", 1);
        undone(with(GATE, "8 * say(1, 0)"), "say(1, 0)", 1);
    }

    private static void start() {
        promise(11, "START is v (0 to 9): what it was.");
        bounds(BUSY, "start(#)", 0, 9);
        after(GATE).due("start(0)", 1).due("count(8)", 0).due("secret(0)", 0).due("start(9)", 0).due("count(8)", 9);
        after(GATE).due("start(9)", 1).due("secret(0)", 4).due("secret(1)", 1).due("secret(3)", 0).due("count(6)", 1);
        after(GATE, "say(1, 0)").due("start(3)", 1).due("tried(0, 2)", 1).due("agree()", 2).due("guard(0, 1)", 1);
        promise(11, "BAD");
        refused(BUSY, BAD, "start(-1)", "start(10)", "start(MIN)", "start(MAX)");
        promise(11, "STATE: no GATE (ahead of BAD).");
        refused(NO_GATE, STATE, "start(0)", "start(9)", "start(-1)", "start(10)", "start(MIN)", "start(MAX)");
    }

    private static void dismiss() {
        promise(12, "A GUARD is DISMISSED (0), or there again (1): who is there (bits).");
        Calls x = after("read " + MOST).due("dismiss(0, 0)", 14).due("dismiss(3, 0)", 6).due("dismiss(2, 0)", 2).due("dismiss(1, 0)", 0);
        x.due("count(5)", 0).due("count(2)", 4).due("dismiss(3, 1)", 8).due("dismiss(0, 1)", 9).due("count(5)", 9).due("count(6)", 6);
        after("read " + ONE).due("dismiss(0, 0)", 0).due("dismiss(0, 1)", 1);
        promise(12, "BAD");
        bounds(BUSY, "dismiss(#, 0)", 0, 3);
        bounds(BUSY, "dismiss(0, #)", 0, 1);
        bounds(with(NEW, "read " + ONE), "dismiss(#, 0)", 0, 0);
        refused(NO_GATE, BAD, "dismiss(0, 0)", "dismiss(0, 1)", "dismiss(-1, 2)");
        promise(12, "STATE: it is so.");
        refused(BUSY, STATE, "dismiss(0, 1)", "dismiss(3, 1)", "dismiss(2, 0)");
        refused(BUSY, BAD, "dismiss(2, 2)", "dismiss(2, -1)", "dismiss(4, 1)");
        refused(with(BUSY, "dismiss(2, 1)"), STATE, "dismiss(2, 1)");
        refused(with(BUSY, "dismiss(0, 0)", "undo()"), STATE, "dismiss(0, 1)");
    }

    private static void undo() {
        promise(13, "The latest ACT is undone: how many can be undone yet.");
        Calls x = after(BUSY).due("count(6)", 6).due("undo()", 5).due("count(8)", 1).due("undo()", 4).due("count(5)", 15);
        x.due("undo()", 3).due("count(4)", 1).due("undo()", 2).due("count(4)", 0).due("count(9)", 1).due("guard(3, 1)", 0);
        x.due("undo()", 1).due("count(3)", 0).due("count(4)", 1).due("tried(0, 2)", 1).due("undo()", 0).due("count(4)", 0);
        x.due("count(9)", 0).due("undo()", STATE);
        undone(NINE, "nights(1)", 1);
        // Who tried on the night ahead is told of again, whoever came in between.
        same(after(NINE, "nights(1)", "9 * say(0, 1)", "10 * undo()").view(), after(NINE).view(), "a night with tries, undone");
        same(after(BUSY, "nights(1)", "dismiss(3, 0)", "4 * say(2, 1)", "6 * undo()").view(), after(BUSY).view(), "a night with tries, undone");
        undone(with(GATE, "9 * say(1, 0)", "nights(2)", "say(0, 0)"), "nights(2)", 2);
        promise(13, "STATE: none.");
        refused(NO_GATE, STATE, "undo()");
        refused(GATE, STATE, "undo()");
        refused(with(BUSY, "6 * undo()"), STATE, "undo()");
        refused(with(BUSY, "gate()", "read " + FIVE), STATE, "undo()");
        refused(with(BUSY, "restore(0)"), STATE, "undo()");
        // What is refused, or only told, is no act.
        refused(with(GATE, "nights(0)", "say(9, 9)", "start(10)", "dismiss(0, 1)", "taken(0, 0, 0)", "image(0)"), STATE, "undo()");
    }

    private static void tried() {
        promise(17, "Of a try of TONIGHT (0 on): 0 the WORD, 1 the GUARD (NONE: he was DISMISSED), 2 whether taken (1, 0).");
        Calls x = after(GATE, "say(1, 0)", "say(2, 3)", "dismiss(2, 0)", "say(1, 2)", "5 * say(4, 4)", "say(0, 5)", "dismiss(2, 1)", "dismiss(3, 0)");
        x.due("tried(0, 0)", 1).due("tried(0, 1)", 0).due("tried(0, 2)", 1);
        x.due("tried(1, 0)", 2).due("tried(1, 1)", 3).due("tried(1, 2)", 1);
        x.due("tried(2, 0)", 1).due("tried(2, 1)", NONE).due("tried(2, 2)", 0);
        x.due("tried(8, 0)", 0).due("tried(8, 1)", 1).due("tried(8, 2)", 1).due("tried(7, 0)", 4).due("tried(7, 1)", 0).due("tried(7, 2)", 0);
        promise(17, "BAD: no such try.");
        bounds(NINE, "tried(#, 0)", 0, 8);
        bounds(NINE, "tried(8, #)", 0, 2);
        bounds(BUSY, "tried(#, 2)", 0, 1);
        refused(GATE, BAD, "tried(0, 0)", "tried(-1, 0)", "tried(9, 0)");
        refused(NO_GATE, BAD, "tried(0, 0)", "tried(0, 3)");
        refused(with(NINE, "nights(1)"), BAD, "tried(0, 0)", "tried(8, 2)");
        refused(with(NINE, "undo()"), BAD, "tried(8, 0)");
    }

    private static void image() {
        promise(33, "An IMAGE (0, 1) is kept of the GATE: 1.");
        for (int k = 0; k < 2; k++) {
            Calls x = after(BUSY).due("image(" + k + ")", 1).due("status()", 1).due("count(6)", 6);
            x.then("5 * undo()", "gate()", "read " + ONE).due("restore(" + k + ")", 1);
            same(x.standing(), after(BUSY).then("gate()").standing(), "image and restore");
            x.due("count(6)", 0);
        }
        same(after(BUSY, "image(1)").standing(), after(BUSY).standing(), "image(1)");
        // Each stands by itself, and a later one stands in place of the earlier.
        Calls y = after(GATE, "image(0)", "nights(1)", "image(1)", "nights(1)").due("restore(0)", 1).due("count(3)", 0);
        y.due("restore(1)", 1).due("count(3)", 1).then("nights(4)", "image(0)", "restore(1)").due("restore(0)", 1).due("count(3)", 5);
        promise(33, "BAD");
        bounds(BUSY, "image(#)", 0, 1);
        refused(NO_GATE, BAD, "image(2)", "image(-1)", "image(MIN)", "image(MAX)");
        promise(33, "STATE: no GATE.");
        refused(NO_GATE, STATE, "image(0)", "image(1)");
        refused(NEW, STATE, "image(0)", "image(1)");
    }

    private static void restore() {
        promise(34, "The GATE is as an IMAGE kept it (no ACT can be undone then): 1.");
        Calls x = after(BUSY).due("restore(0)", 1).due("count(3)", 0).due("count(4)", 1).due("count(5)", 15).due("count(6)", 0);
        x.due("count(8)", 1).due("count(9)", 1).due("tried(0, 0)", 1).due("agree()", 2).due("undo()", STATE).due("status()", 1);
        x.due("count(7)", 4).due("count(0)", 3).due("trace(0)", 12);
        // An act behind it can be undone, those ahead of it cannot.
        x.due("nights(1)", 3).due("count(6)", 1).due("undo()", 0).due("undo()", STATE).due("count(3)", 0);
        // It can be restored again, and what is done behind it leaves the image alone.
        x.then("say(1, 0)", "dismiss(0, 0)", "start(9)", "nights(3)").due("restore(0)", 1).due("count(4)", 1).due("count(5)", 15);
        x.due("count(8)", 1).due("count(3)", 0).due("count(9)", 1);
        same(after(NINE, "image(0)", "nights(1)", "9 * say(0, 1)", "restore(0)").standing(), after(NINE).standing(), "tries, restored");
        Calls y = after("read " + MOST, "image(1)", "read " + ONE).due("restore(1)", 1).due("count(1)", 6).due("count(2)", 4).due("letter(5, 0)", 5);
        y.due("guard(3, 0)", 9).due("kind(3)", 4).due("secret(0)", 3).due("count(5)", 15);
        Calls z = after("read " + ONE, "image(1)", "read " + MOST).due("restore(1)", 1).due("count(1)", 1).due("count(2)", 1);
        z.due("letter(1, 0)", BAD).due("guard(1, 0)", BAD).due("secret(1)", 0).due("count(5)", 1);
        promise(34, "BAD");
        bounds(with(BUSY, "image(1)"), "restore(#)", 0, 1);
        refused(NO_GATE, BAD, "restore(2)", "restore(-1)", "restore(MIN)", "restore(MAX)");
        promise(34, "STATE: none was kept.");
        refused(BUSY, STATE, "restore(1)");
        refused(NO_GATE, STATE, "restore(0)", "restore(1)");
        refused(with(GATE, "image(1)"), STATE, "restore(0)");
        refused(with(NO_GATE, "image(0)"), STATE, "restore(0)");
    }
}
