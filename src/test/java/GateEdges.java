/** The edges of promises 14 to 16 and 18 to 22: what can be seen of a gate, its secrets, and who is taken when. */
final class GateEdges extends Edges {
    /** By the secret, aaa, these are off at 0, 1, 2, 3, 1, 2 places, and alike to the deaf at 3, 2, 1, 0, 3, 3. */
    private static final String HEARD = "q0,0,0;waaa;waab;wabb;wbbb;wfaa;wffa;";

    private GateEdges() {
    }

    static void run() {
        secrets();
        distances();
        hours();
        kindsOfGuards();
        dismissed();
        letter();
        like();
        guard();
        secret();
        taken();
        safe();
        open();
        next();
    }

    private static void secrets() {
        terms("2 The SECRET of a NIGHT t is WORD 0, if what is left over of t by 7 is SHROVE;");
        for (int shrove = 0; shrove < 7; shrove++) {
            Calls x = after("read q1,0," + shrove + ";waaa;wbbb;k0;");
            for (int d = 0; d <= 60; d++) {
                x.due("secret(" + d + ")", d % 7 == shrove ? 0 : 1);
            }
            x.due("nights(" + (shrove + 1) + ")", 1).due("nights(6)", 0).due("nights(1)", 1);
        }
        terms("else the WORD that is left over of START and STEP times t by how many WORDS there are.");
        int[] nines = {3, 0, 3, 0, 3, 0, 0, 0, 3};
        Calls x = after("read " + MOST);
        for (int d = 0; d < nines.length; d++) {
            x.due("secret(" + d + ")", nines[d]);
        }
        Calls y = after("read q1,9,6;waaa;wbbb;wccc;wddd;weee;k0;", "41 * nights(24)", "nights(15)");
        // 8992 leaves 2 over by 5; night 1000 is 6 by 7; 9523 and 9532 leave 3 and 2 over.
        y.due("secret(0)", 2).due("secret(1)", 0).due("secret(59)", 3).due("secret(60)", 2);
        after("read q9,9,6;waaa;k0;").due("secret(0)", 0).due("secret(1)", 0).due("secret(60)", 0);
        after("read q6,0,6;waaa;wbbb;wccc;wddd;weee;wfff;k0;").due("secret(0)", 0);
        after("read q5,0,6;waaa;wbbb;wccc;wddd;weee;wfff;k0;").due("secret(0)", 5);
    }

    private static void distances() {
        terms("The DISTANCE of two WORDS is at how many places their letters differ; LIPS are as many places as their letters are alike"
            + " to the deaf (letters, a as 0, b as 1 and so on, that leave the same over by 5).");
        Calls x = after("read q0,0,0;waaa;wzuk;wzub;wacb;wbcd;wefp;k0;");
        int[] far = {0, 3, 3, 2, 3, 3};
        int[] lips = {3, 3, 2, 1, 0, 2};
        for (int word = 0; word < 6; word++) {
            x.due("like(0, " + word + ", 0)", far[word]).due("like(" + word + ", 0, 0)", far[word]);
            x.due("like(0, " + word + ", 1)", lips[word]).due("like(" + word + ", 0, 1)", lips[word]);
            x.due("like(" + word + ", " + word + ", 0)", 0).due("like(" + word + ", " + word + ", 1)", 3);
        }
        // Letters one by one against a and e, over all of the five's wraps.
        for (char letter = 'a'; letter <= 'z'; letter++) {
            int left = (letter - 'a') % 5;
            after("read q0,0,0;wbb" + letter + ";wcca;wdde;k0;").due("like(0, 1, 1)", left == 0 ? 1 : 0).due("like(0, 2, 1)", left == 4 ? 1 : 0);
        }
    }

    private static void hours() {
        terms("At HOUR h (0 to 5) of NIGHT t the GUARD is on that is left over of t and h by how many GUARDS there are.");
        on("k0;", 0, 63);
        on("k0;", 5, 63);
        on("k0;k0;", 0, 1 + 4 + 16, 2 + 8 + 32);
        on("k0;k0;", 1, 2 + 8 + 32, 1 + 4 + 16);
        on("k0;k0;k0;", 0, 1 + 8, 2 + 16, 4 + 32);
        on("k0;k0;k0;", 2, 2 + 16, 4 + 32, 1 + 8);
        on("k0;k0;k0;", 3, 1 + 8, 2 + 16, 4 + 32);
        on("k0;k0;k0;k0;", 0, 1 + 16, 2 + 32, 4, 8);
        on("k0;k0;k0;k0;", 3, 2 + 32, 4, 8, 1 + 16);
        on("k0;k0;k0;k0;", 4, 1 + 16, 2 + 32, 4, 8);
        after("read q0,0,0;waaa;k0;k0;k0;k0;", "41 * nights(24)", "nights(15)").due("guard(3, 3)", 1 + 16).due("guard(2, 3)", 8);
        Calls x = after("read q0,0,0;waaa;k0;k0;k0;k0;", "nights(3)", "say(0, 0)", "say(0, 1)", "say(0, 5)");
        x.due("tried(0, 1)", 3).due("tried(1, 1)", 0).due("tried(2, 1)", 0);
    }

    private static void on(String guards, int night, int... hours) {
        Calls x = after("read q0,0,0;waaa;" + guards, night + " * nights(1)");
        for (int guard = 0; guard < hours.length; guard++) {
            x.due("guard(" + guard + ", 3)", hours[guard]);
        }
    }

    private static void kindsOfGuards() {
        terms("He TAKES who says a WORD: a keen one, if its DISTANCE from the SECRET is 0; a sharp one, if that is 1 or less;"
            + " a sleepy one as a keen one, but only on NIGHTS that are even; a deaf one, if LIPS of it and the SECRET are 3;"
            + " a sergeant, if these are 2 or more.");
        takes("k", 1, 1);
        takes("s", 1 + 2 + 16, 1 + 2 + 16);
        takes("e", 1, 0);
        takes("d", 1 + 16 + 32, 1 + 16 + 32);
        takes("g", 1 + 2 + 16 + 32, 1 + 2 + 16 + 32);
        terms("All others get IN.");
        for (char sort : "ksedg".toCharArray()) {
            after("read " + HEARD + sort + "0;").due("say(3, 0)", 0).due("say(2, 0)", 0).due("count(9)", 0).due("count(4)", 2);
        }
    }

    /** Which words one of a sort takes on even nights, and on odd ones. */
    private static void takes(String sort, int even, int odd) {
        Calls x = after("read " + HEARD + sort + "0;");
        for (int d : new int[] {0, 1, 2, 59, 60}) {
            int taken = d % 2 == 0 ? even : odd;
            x.due("safe(5, " + d + ")", 63 - taken);
            for (int word = 0; word < 6; word++) {
                x.due("taken(" + word + ", 0, " + d + ")", taken >> word & 1);
            }
        }
        for (int word = 0; word < 6; word++) {
            x.due("say(" + word + ", 0)", even >> word & 1);
        }
        x.due("guard(0, 1)", Integer.bitCount(even)).then("nights(1)");
        for (int word = 0; word < 6; word++) {
            x.due("say(" + word + ", 0)", odd >> word & 1);
        }
        x.due("guard(0, 1)", Integer.bitCount(even) + Integer.bitCount(odd));
    }

    private static void dismissed() {
        terms("Who is DISMISSED takes nobody.");
        for (char sort : "ksedg".toCharArray()) {
            Calls x = after("read " + HEARD + sort + "0;", "dismiss(0, 0)").due("say(0, 0)", 0).due("safe(0, 0)", 63).due("taken(0, 5, 60)", 0);
            x.due("count(9)", 0).due("dismiss(0, 1)", 1).due("say(0, 0)", 1).due("count(9)", 1);
        }
    }

    private static void letter() {
        promise(14, "Of a WORD: its letter (0 to 25) at a place (0 to 2).");
        told(BUSY, "letter(0, 0)", 0);
        told(BUSY, "letter(3, 2)", 25);
        after(BUSY).due("letter(4, 0)", 10).due("letter(4, 1)", 1).due("letter(4, 2)", 2);
        promise(14, "BAD.");
        bounds(BUSY, "letter(#, 0)", 0, 4);
        bounds(BUSY, "letter(4, #)", 0, 2);
        bounds(with(NEW, "read " + MOST), "letter(#, 2)", 0, 5);
        bounds(with(NEW, "read " + ONE), "letter(#, 2)", 0, 0);
        refused(NO_GATE, BAD, "letter(0, 0)", "letter(0, 3)");
    }

    private static void like() {
        promise(15, "Of two WORDS: DISTANCE (what = 0), LIPS (1).");
        told(BUSY, "like(0, 4, 0)", 1);
        told(BUSY, "like(0, 4, 1)", 3);
        promise(15, "BAD.");
        bounds(BUSY, "like(#, 0, 0)", 0, 4);
        bounds(BUSY, "like(0, #, 1)", 0, 4);
        bounds(BUSY, "like(4, 4, #)", 0, 1);
        bounds(with(NEW, "read " + ONE), "like(0, #, 0)", 0, 0);
        refused(NO_GATE, BAD, "like(0, 0, 0)", "like(-1, 0, 0)", "like(0, 0, 2)");
    }

    private static void guard() {
        promise(16, "Of a GUARD: 0 FEE, 1 how many he TOOK, 2 whether there (1, 0), 3 HOURS (bits) at which he is on TONIGHT.");
        int[] of = {3, 1, 1, 8, 5, 0, 1, 1 + 16, 2, 0, 0, 2 + 32, 9, 1, 1, 4};
        for (int i = 0; i < of.length; i++) {
            told(BUSY, "guard(" + i / 4 + ", " + i % 4 + ")", of[i]);
        }
        promise(16, "BAD.");
        bounds(BUSY, "guard(#, 0)", 0, 3);
        bounds(BUSY, "guard(3, #)", 0, 3);
        bounds(with(NEW, "read " + ONE), "guard(#, 3)", 0, 0);
        refused(NO_GATE, BAD, "guard(0, 0)", "guard(-1, 0)", "guard(0, 4)");
    }

    private static void secret() {
        promise(18, "The SECRET.");
        told(BUSY, "secret(0)", 1);
        told(BUSY, "secret(2)", 0);
        // Night 61: 122 and 4 leave 1 over by 5; 61 leaves 5 over by 7.
        told(BUSY, "secret(60)", 1);
        told(with(BUSY, "nights(1)"), "secret(0)", 3);
        promise(18, "BAD");
        bounds(BUSY, "secret(#)", 0, 60);
        promise(18, "STATE: no GATE (ahead of BAD).");
        refused(NO_GATE, STATE, "secret(0)", "secret(60)", "secret(-1)", "secret(61)", "secret(MIN)", "secret(MAX)");
    }

    private static void taken() {
        promise(19, "Whether one is taken.");
        // Night 1: the secret is 1; hours 0 to 5 have guards 1, 2 (dismissed), 3, 0, 1, 2 (dismissed).
        int[] ofOne = {1, 0, 1, 1, 1, 0};
        int[] ofZero = {1, 0, 1, 0, 1, 0};
        for (int hour = 0; hour < 6; hour++) {
            told(BUSY, "taken(1, " + hour + ", 0)", ofOne[hour]);
            told(BUSY, "taken(0, " + hour + ", 0)", ofZero[hour]);
        }
        promise(19, "BAD.");
        bounds(BUSY, "taken(#, 0, 0)", 0, 4);
        bounds(BUSY, "taken(0, #, 0)", 0, 5);
        bounds(BUSY, "taken(0, 0, #)", 0, 60);
        refused(NO_GATE, BAD, "taken(0, 0, 0)", "taken(-1, 6, 61)");
    }

    private static void safe() {
        promise(20, "WORDS that get IN.");
        int[] in = {31 - 3, 31, 8, 31 - 2, 31 - 3, 31};
        for (int hour = 0; hour < 6; hour++) {
            told(BUSY, "safe(" + hour + ", 0)", in[hour]);
        }
        after("read " + ONE).due("safe(0, 0)", 0).due("safe(5, 60)", 0);
        promise(20, "BAD");
        bounds(BUSY, "safe(#, 0)", 0, 5);
        bounds(BUSY, "safe(0, #)", 0, 60);
        promise(20, "STATE: no GATE (ahead of BAD).");
        refused(NO_GATE, STATE, "safe(0, 0)", "safe(6, 0)", "safe(-1, 0)", "safe(0, 61)", "safe(0, -1)", "safe(MIN, MAX)");
    }

    private static void open() {
        promise(21, "HOURS at which all get IN.");
        told(BUSY, "open(0, 0)", 63);
        told(BUSY, "open(2, 0)", 2 + 32);
        told(BUSY, "open(1, 0)", 2 + 8 + 32);
        told(BUSY, "open(8, 0)", 63);
        told(BUSY, "open(9, 0)", 2 + 8 + 32);
        told(BUSY, "open(31, 0)", 2 + 32);
        // In 60 nights, night 61, the secret is 1 and the same guards are on.
        told(BUSY, "open(31, 60)", 2 + 32);
        after("read " + ONE).due("open(0, 0)", 63).due("open(1, 0)", 0).then("dismiss(0, 0)").due("open(1, 0)", 63);
        promise(21, "BAD");
        bounds(BUSY, "open(#, 0)", 0, 31);
        bounds(BUSY, "open(0, #)", 0, 60);
        bounds(with(NEW, "read " + MOST), "open(#, 0)", 0, 63);
        bounds(with(NEW, "read " + ONE), "open(#, 0)", 0, 1);
        promise(21, "STATE: no GATE (ahead of BAD).");
        refused(NO_GATE, STATE, "open(0, 0)", "open(1, 0)", "open(-1, 0)", "open(64, 0)", "open(0, 61)", "open(0, -1)", "open(MIN, MAX)");
    }

    private static void next() {
        terms("NEXT: behind how many NIGHTS (0 to 60) a WORD is the SECRET first; NONE.");
        // SHROVE stands in the way of word 5 on night 5: it comes on night 11 first.
        Calls x = after("read q0,1,5;waaa;wbbb;wccc;wddd;weee;wfff;k0;");
        x.due("next(0)", 0).due("next(1)", 1).due("next(4)", 4).due("next(5)", 11);
        x.then("nights(1)").due("next(0)", 4).due("next(1)", 0).due("next(5)", 10);
        // By SHROVE alone, six nights on; never.
        after("read q1,0,6;waaa;wbbb;wccc;k0;").due("next(0)", 6).due("next(1)", 0).due("next(2)", NONE).due("nights(7)", 1).due("next(0)", 6);
        after("read q1,2,0;waaa;wbbb;wccc;wddd;k0;").due("next(0)", 0).due("next(2)", NONE).due("next(3)", 1).due("next(1)", 2);
        after("read " + ONE).due("next(0)", 0);
        promise(22, "NEXT; NONE.");
        told(BUSY, "next(1)", 0);
        told(BUSY, "next(2)", 3);
        told(with(NEW, "read q1,0,6;waaa;wbbb;wccc;k0;"), "next(2)", NONE);
        promise(22, "BAD.");
        bounds(BUSY, "next(#)", 0, 4);
        bounds(with(NEW, "read " + ONE), "next(#)", 0, 0);
        refused(NO_GATE, BAD, "next(0)", "next(-1)", "next(6)");
    }
}
