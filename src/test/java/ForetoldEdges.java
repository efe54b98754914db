/** The edges of promises 23 to 32, and of what the terms foretell. */
final class ForetoldEdges extends Edges {
    /** The secret is 5, on every night but SHROVE; word by word the keen one tells. */
    private static final String LAST_OF_SIX = "q5,0,6;waaa;wbbb;wccc;wddd;weee;wmlk;k1;";
    /** The secret is 0; which words are taken tells a keen (or sleepy) one, a sharp, a deaf one and a sergeant apart. */
    private static final String HEARD = "q0,0,0;waaa;waab;wabb;wbbb;wfaa;wffa;";
    /** To a sharp one word 5 parts the words in 3, 4, 5 and 0, 1, 2; no other word does so. To the deaf no two are one. */
    private static final String LAST_TELLS = "q0,0,6;wxyz;wyzx;wzxy;wbaa;waba;waaa;";
    /** Word 0 is taken first, then the secret is another by START: no word agrees with both. */
    private static final String[] NONE_AGREES = {"read " + SIX, "say(0, 0)", "start(1)", "say(0, 0)", "set(3, 0, 0)"};

    private ForetoldEdges() {
    }

    static void run() {
        nothingChanges();
        agree();
        man();
        fewest();
        march();
        marchIsRefused();
        cheap();
        near();
        rules();
        rulesAreRefused();
        fits();
        fitsIsRefused();
        sure();
        drawn();
    }

    private static void nothingChanges() {
        terms("3 FORETOLD (nothing changes), GUARDS as they are, d NIGHTS from now (0 to 60). The SECRET; whether one is taken (1, 0) who says"
            + " a WORD at an HOUR; WORDS (bits) that get IN at an HOUR; HOURS (bits) at which all of told WORDS get IN.");
        told(BUSY, "secret(1)", 3);
        told(BUSY, "taken(3, 0, 1)", 0);
        told(BUSY, "taken(3, 1, 1)", 1);
        told(BUSY, "safe(0, 1)", 31);
        told(BUSY, "safe(1, 1)", 31 - 8);
        told(BUSY, "open(8, 1)", 1 + 16);
        // At the last night all is foretold as far as ever.
        String[] last = with(GATE, "41 * nights(24)", "nights(15)");
        told(last, "secret(60)", (1 + 2 * 1059) % 5);
        told(last, "taken(4, 0, 60)", 1);
        told(last, "safe(1, 60)", 31 - 16);
        told(last, "open(16, 60)", 0);
        told(last, "cheap(16, 60, 0)", 19);
        told(last, "drawn(60, 1, 0)", after(last).answer("drawn(60, 1, 0)"));
    }

    private static void agree() {
        terms("AGREE: WORDS (bits), any of which, were it the SECRET of TONIGHT, would have had just those taken TONIGHT who were"
            + " (by the GUARDS who were on).");
        after("read " + ONE).due("agree()", 1).then("9 * say(0, 0)").due("agree()", 1);
        after("read " + MOST).due("agree()", 63);
        Calls x = after("read " + LAST_OF_SIX);
        for (int word = 0; word < 5; word++) {
            x.due("say(" + word + ", 0)", 0).due("agree()", 63 >> word + 1 << word + 1);
        }
        x.due("say(5, 0)", 1).due("agree()", 32).due("undo()", 5).due("undo()", 4).due("agree()", 48).due("nights(1)", 5).due("agree()", 63);
        // Who is dismissed tells nothing, whether he is there again or not; who was there tells it though he is dismissed by now.
        Calls y = after("read " + LAST_OF_SIX, "dismiss(0, 0)").due("say(5, 0)", 0).due("agree()", 63).then("dismiss(0, 1)").due("agree()", 63);
        y.due("say(0, 0)", 0).due("agree()", 62).then("dismiss(0, 0)").due("agree()", 62);
        after(NONE_AGREES).due("agree()", 0).due("undo()", 2).due("agree()", 1);
        // A sleepy one tells nothing on odd nights.
        after("read q0,0,6;waaa;wbbb;e0;").due("say(1, 0)", 0).due("agree()", 1).then("nights(1)").due("say(0, 0)", 0).due("agree()", 3);
        promise(23, "AGREE.");
        told(BUSY, "agree()", 8);
        told(NONE_AGREES, "agree()", 0);
        promise(23, "STATE: no GATE.");
        refused(NO_GATE, STATE, "agree()");
    }

    private static void manIs(String[] state, int word, int hour, int left) {
        told(state, "man(0)", word);
        told(state, "man(1)", hour);
        told(state, "man(2)", left);
    }

    private static void man() {
        terms("MAN: the WORD and HOUR, tried now, behind which, at worst (taken or not, as far as it may be by AGREE), fewest AGREE,"
            + " of several the first (by WORDS, then HOURS): which; the HOUR; how many then.");
        manIs(with(NEW, "read " + ONE), 0, 0, 1);
        manIs(with(NEW, "read " + SIX), 0, 0, 5);
        manIs(with(NEW, "read " + SIX, "dismiss(0, 0)"), 0, 0, 6);
        manIs(NONE_AGREES, 0, 0, 0);
        manIs(with(NEW, "read " + LAST_OF_SIX, "say(5, 0)"), 0, 0, 1);
        // Once 0 is out, it tells nothing more.
        manIs(with(NEW, "read " + LAST_OF_SIX, "say(0, 0)"), 1, 0, 4);
        manIs(with(NEW, "read " + LAST_OF_SIX, "say(0, 0)", "say(1, 0)", "say(2, 0)", "say(3, 0)"), 4, 0, 1);
        // By the sergeant at hour 1 word 0 halves them; so would word 1 by the sharp one at hour 0, but it is later by WORDS.
        manIs(with(NEW, "read q0,0,6;waaa;wbcd;wffb;wbce;s0;g0;"), 0, 1, 2);
        // The sergeant alone, on at hours 1, 3, 5: the first HOUR.
        manIs(with(NEW, "read q0,0,6;waaa;wbcd;wffb;wbce;s0;g0;", "dismiss(0, 0)"), 0, 1, 2);
        manIs(with(NEW, "read q0,0,6;waaa;wbcd;wffb;wbce;s0;g0;", "dismiss(1, 0)"), 1, 0, 2);
        // All words are one to the deaf; the keen one is on at hour 3 alone.
        manIs(with(NEW, "read q0,0,6;waaa;wfff;wkkk;wppp;wuuu;wzzz;d0;d0;d0;k0;"), 0, 3, 5);
        manIs(with(NEW, "read q0,0,6;waaa;wfff;wkkk;wppp;wuuu;wzzz;d0;d0;d0;k0;", "nights(4)"), 0, 3, 5);
        // The last word alone is one letter off two others; the sharp one is on at the last of the hours that differ.
        manIs(with(NEW, "read " + LAST_TELLS + "s0;"), 5, 0, 3);
        manIs(with(NEW, "read " + LAST_TELLS + "d0;d0;d0;s0;"), 5, 3, 3);
        promise(24, "MAN: which (what = 0), HOUR (1), how many (2).");
        // Three words agree once the keen one let 0 by and the sharp one took it: 1 and 4; the deaf one tells them apart.
        manIs(with(GATE, "say(0, 0)", "say(0, 1)"), 0, 2, 1);
        manIs(with(GATE, "9 * say(0, 0)"), 0, 1, 2);
        promise(24, "BAD");
        bounds(BUSY, "man(#)", 0, 2);
        promise(24, "STATE: no GATE (ahead of BAD).");
        refused(NO_GATE, STATE, "man(0)", "man(2)", "man(-1)", "man(3)", "man(MIN)", "man(MAX)");
    }

    private static void fewest() {
        terms("FEWEST: the fewest men, each sent by what came of those ahead, by whom, at worst, one WORD alone AGREES"
            + " (0: one does so, or none); NONE: by none.");
        Calls x = after("read " + LAST_OF_SIX).due("fewest()", 5);
        for (int word = 0; word < 5; word++) {
            x.then("say(" + word + ", 0)").due("fewest()", 4 - word);
        }
        after("read " + ONE).due("fewest()", 0).then("dismiss(0, 0)").due("fewest()", 0);
        after(NONE_AGREES).due("fewest()", 0).then("dismiss(0, 0)").due("fewest()", 0);
        after("read " + SIX, "dismiss(0, 0)").due("fewest()", NONE);
        after("read " + LAST_OF_SIX, "say(5, 0)", "dismiss(0, 0)").due("fewest()", 0);
        after("read q0,0,6;waaa;wbbb;k0;").due("fewest()", 1).then("dismiss(0, 0)").due("fewest()", NONE);
        after("read q0,0,6;waaa;wfff;d0;").due("fewest()", NONE);
        // The keen one alone tells, on at hour 3.
        Calls y = after("read q0,0,6;waaa;wfff;d0;d0;d0;k0;").due("fewest()", 1).then("nights(2)").due("fewest()", 1);
        y.then("dismiss(3, 0)").due("fewest()", NONE);
        after("read q0,0,6;waaa;wfff;wkkk;d0;d0;d0;k0;").due("fewest()", 2);
        // Only if the first says the last word, or word 3 of these, to the sharp one, three are enough.
        after("read " + LAST_TELLS + "s0;").due("fewest()", 3);
        after("read " + LAST_TELLS + "d0;d0;d0;s0;").due("fewest()", 3).then("dismiss(3, 0)").due("fewest()", 5);
        after("read q0,0,6;wxyz;wyzx;wzxy;waaa;wbaa;waba;d0;d0;d0;s0;").due("fewest()", 3);
        // The second man is sent by what came of the first.
        after("read q0,0,6;waaa;waab;wzzz;wzzy;s0;k0;").due("fewest()", 2);
        after("read q0,0,6;waaa;waab;wzzz;wzzy;s0;").due("fewest()", NONE);
        after("read q0,0,6;waaa;wbbb;e0;").due("fewest()", 1).then("nights(1)").due("fewest()", NONE);
        promise(25, "FEWEST; NONE.");
        told(GATE, "fewest()", 3);
        told(BUSY, "fewest()", 0);
        told(with(NEW, "read " + SIX, "dismiss(0, 0)"), "fewest()", NONE);
        promise(25, "STATE: no GATE.");
        refused(NO_GATE, STATE, "fewest()");
    }

    private static void march() {
        terms("MARCH: men say the WORDS that a row tells (n ITEMS, 1 to 6), in this order TONIGHT, each at a later HOUR than the one ahead,"
            + " each as soon as he gets IN: the HOUR of the last one; of the k-th; NONE: there is none (an ITEM that is no WORD gets IN never).");
        // Tonight 0 gets IN at hours 0, 2, 4; 1 never; 2 and 4 at all but 3; 3 always.
        String[] gate = with(GATE, "fill 0 2 0 0 0 3 3 3", "fill 1 2 3 3 3 3 3 3", "fill 4 2 2 2 2 2 2 2", "fill 5 2 3 0 3 0 3 0");
        int[][] hours = {{0, 2, 4, 5, NONE, NONE}, {0, 1, 2, 3, 4, 5}, {0, 1, 2, 4, 5, NONE}, {0, 2, 3, 4, 5, NONE}};
        int[] rows = {0, 1, 4, 5};
        for (int r = 0; r < rows.length; r++) {
            for (int n = 1; n <= 6; n++) {
                Calls x = after(gate).due("march(" + rows[r] + ", 0, " + n + ", -1)", hours[r][n - 1]);
                for (int k = 0; k < n; k++) {
                    x.due("march(" + rows[r] + ", 0, " + n + ", " + k + ")", hours[r][k]);
                }
            }
        }
        after(gate, "fill 0 2 1").due("march(0, 0, 1, 0)", NONE).then("dismiss(1, 0)").due("march(0, 0, 1, 0)", 1);
        for (String item : new String[] {"5", "6", "-1", "255", "-2147483648", "2147483647", "-1000000"}) {
            Calls x = after(GATE, "fill 0 2 3 " + item + " 3").due("march(0, 1, 1, -1)", NONE).due("march(0, 0, 2, 1)", NONE);
            x.due("march(0, 0, 3, -1)", NONE).due("march(0, 0, 3, 2)", NONE).due("march(0, 0, 3, 0)", 0).due("status()", 0);
        }
        // An item that the lane cut to a word is that word.
        after(GATE, "fill 0 0 259").due("march(0, 0, 1, -1)", 0);
        after("read " + ONE, "fill 0 0 0 0").due("march(0, 0, 2, -1)", NONE).then("dismiss(0, 0)").due("march(0, 0, 2, -1)", 1);
        after("read " + MOST, "fill 0 0 5 5 5 5 5 5").due("march(0, 0, 6, -1)", 5).then("fill 0 0 6").due("march(0, 0, 1, -1)", NONE);
        promise(26, "MARCH, n ITEMS of a ROW from i on: the HOUR of the last one (k = -1), of the k-th (0 on); NONE.");
        // In BUSY 1 gets IN at hours 1 and 5, 2 at all but 2, 3 always; row 7 has 40 times 0, which gets IN at 1, 3, 5.
        told(BUSY, "march(0, 0, 3, -1)", 4);
        told(BUSY, "march(0, 0, 3, 1)", 3);
        told(BUSY, "march(0, 2, 1, -1)", 0);
        told(BUSY, "march(7, 34, 6, 2)", 5);
        told(BUSY, "march(7, 34, 6, 3)", NONE);
        told(BUSY, "march(7, 39, 1, 0)", 1);
    }

    private static void marchIsRefused() {
        promise(26, "BAD: ROW, n, k (not -1 to n less 1)");
        bounds(BUSY, "march(#, 0, 1, -1)", 0, 7);
        bounds(BUSY, "march(7, 0, #, -1)", 1, 6);
        bounds(BUSY, "march(7, 0, 6, #)", -1, 5);
        bounds(BUSY, "march(7, 0, 1, #)", -1, 0);
        refused(BUSY, BAD, "march(8, -1, 1, -1)", "march(1, 0, 7, -1)", "march(1, 0, 3, 3)", "march(0, 99, 0, -1)", "march(1, 0, 0, 0)");
        promise(26, "STATE: no GATE (ahead of BAD)");
        refused(NO_GATE, STATE, "march(0, 0, 1, -1)", "march(8, 0, 1, -1)", "march(0, 0, 0, -1)", "march(0, 0, 7, -1)");
        refused(NO_GATE, STATE, "march(0, 0, 1, 1)", "march(1, 0, 1, -1)", "march(0, 9, 1, -1)", "march(MIN, MIN, MIN, MIN)");
        promise(26, "NULL");
        refused(BUSY, NULL, "march(1, 0, 1, -1)", "march(1, -1, 1, 0)", "march(6, 40, 6, 5)");
        promise(26, "PLACE.");
        refused(BUSY, PLACE, "march(0, -1, 1, -1)", "march(0, 3, 1, -1)", "march(0, 0, 4, -1)", "march(0, 1, 3, 0)", "march(7, 35, 6, -1)");
        refused(BUSY, PLACE, "march(7, 40, 1, -1)", "march(0, MAX, 6, -1)", "march(0, MIN, 6, -1)", "march(2, 0, 3, 0)");
        refused(with(BUSY, "row(1, 0, 0)"), PLACE, "march(1, 0, 1, -1)");
    }

    private static void cheap() {
        terms("CHEAP for told WORDS, d: GUARDS to be DISMISSED now so that all of these get IN at each HOUR in d NIGHTS, for least FEE together,"
            + " of several the fewest, of these the least bits: how much; which (bits; DISMISSED ones are never among them).");
        cheapIs(GATE, "0, 0", 0, 0);
        cheapIs(GATE, "0, 60", 0, 0);
        cheapIs(GATE, "31, 0", 19, 15);
        cheapIs(GATE, "1, 0", 14, 2 + 8);
        cheapIs(GATE, "8, 0", 0, 0);
        // In one night the secret is 3, and nobody but who says it is taken.
        cheapIs(GATE, "8, 1", 19, 15);
        cheapIs(GATE, "23, 1", 0, 0);
        cheapIs(with(GATE, "dismiss(0, 0)", "dismiss(3, 0)"), "31, 0", 7, 2 + 4);
        cheapIs(with(GATE, "dismiss(0, 0)", "dismiss(1, 0)", "dismiss(2, 0)", "dismiss(3, 0)"), "31, 0", 0, 0);
        // Who costs nothing, and takes none of these, stays.
        cheapIs(with(NEW, "read q0,0,0;waaa;wfab;k0;g0;s0;d0;"), "2, 0", 0, 2);
        cheapIs(with(NEW, "read q0,0,0;waaa;wfab;k9;g9;s9;d9;"), "1, 0", 36, 15);
        // A sleepy one need not go for an odd night.
        cheapIs(with(NEW, "read q0,0,0;waaa;e4;k3;"), "1, 1", 3, 2);
        cheapIs(with(NEW, "read q0,0,0;waaa;e4;k3;"), "1, 60", 7, 3);
        promise(27, "CHEAP: how much (what = 0), which (1).");
        cheapIs(BUSY, "2, 0", 17, 1 + 2 + 8);
        promise(27, "BAD");
        bounds(BUSY, "cheap(#, 0, 0)", 0, 31);
        bounds(BUSY, "cheap(0, #, 0)", 0, 60);
        bounds(BUSY, "cheap(0, 0, #)", 0, 1);
        bounds(with(NEW, "read " + MOST), "cheap(#, 0, 1)", 0, 63);
        bounds(with(NEW, "read " + ONE), "cheap(#, 0, 1)", 0, 1);
        promise(27, "STATE: no GATE (ahead of BAD).");
        refused(NO_GATE, STATE, "cheap(0, 0, 0)", "cheap(1, 0, 0)", "cheap(-1, 0, 0)", "cheap(0, 61, 0)", "cheap(0, 0, 2)", "cheap(MIN, MAX, MIN)");
    }

    private static void cheapIs(String[] state, String wordsAndNights, int fee, int guards) {
        told(state, "cheap(" + wordsAndNights + ", 0)", fee);
        told(state, "cheap(" + wordsAndNights + ", 1)", guards);
    }

    private static void near() {
        terms("NEAR: the WORD that is nearest to one by DISTANCE (another one), of several the first; how far; NONE: there is no other one.");
        after("read " + ONE).due("near(0, 0)", NONE).due("near(0, 1)", NONE);
        after("read q0,0,0;waaa;wbbb;k0;").due("near(0, 0)", 1).due("near(0, 1)", 3).due("near(1, 0)", 0).due("near(1, 1)", 3);
        Calls x = after("read q0,0,0;waaa;wbbb;waab;wabb;wbba;wzzz;k0;");
        int[] nearest = {2, 3, 0, 1, 1, 0};
        int[] far = {1, 1, 1, 1, 1, 3};
        for (int word = 0; word < 6; word++) {
            x.due("near(" + word + ", 0)", nearest[word]).due("near(" + word + ", 1)", far[word]);
        }
        after("read q0,0,0;waaa;wbbb;wzbb;waab;k0;").due("near(2, 0)", 1).due("near(0, 0)", 3);
        after("read q0,0,0;waaa;wzza;wbba;k0;").due("near(0, 0)", 1).due("near(0, 1)", 2);
        promise(28, "NEAR: which (what = 0), how far (1); NONE.");
        told(BUSY, "near(4, 0)", 0);
        told(BUSY, "near(4, 1)", 1);
        told(with(NEW, "read " + ONE), "near(0, 0)", NONE);
        promise(28, "BAD.");
        bounds(BUSY, "near(#, 0)", 0, 4);
        bounds(BUSY, "near(0, #)", 0, 1);
        bounds(with(NEW, "read " + ONE), "near(#, 1)", 0, 0);
        bounds(with(NEW, "read " + ONE), "near(0, #)", 0, 1);
        refused(NO_GATE, BAD, "near(0, 0)", "near(-1, 0)", "near(0, 2)");
    }

    private static void rules() {
        terms("A row tells the SECRET (its number) of each of n NIGHTS (1 to 16) from this one on. STARTS, STEPS (0 to 9, bits),"
            + " SHROVES (0 to 6, bits) by which it is so.");
        String[] one = {"read " + ONE, "row(0, 0, 16)"};
        rulesAre(one, "0, 0, 1", 1023, 1023, 127);
        rulesAre(one, "0, 0, 16", 1023, 1023, 127);
        // Secrets of nights 0 to 15 by FIVE; 0 and 5, 1 and 6 and so on leave the same over by 5.
        String[] five = with(GATE, "fill 0 2 1 3 0 0 4 1 3 0 2 4 0 3 0 2 4 1 3 0 2");
        rulesAre(five, "0, 0, 16", 2 + 64, 4 + 128, 8);
        rulesAre(five, "0, 0, 1", 2 + 64, 1023, 127 - 1);
        rulesAre(five, "0, 0, 2", 2 + 64, 4 + 128, 127 - 1 - 2);
        rulesAre(five, "0, 1, 1", 8 + 256, 0, 0);
        // 0 on night 0: by SHROVE 0 too.
        rulesAre(five, "0, 2, 1", 1 + 32, 0, 1);
        // From this night on: nights 3 to 18, SHROVE on the first of them, on 10 and on 17.
        rulesAre(with(five, "nights(3)"), "0, 3, 16", 2 + 64, 4 + 128, 8);
        rulesAre(with(five, "nights(3)"), "0, 0, 16", 0, 0, 0);
        // START as it is.
        rulesAre(with(five, "start(6)"), "0, 0, 16", 2 + 64, 4 + 128, 8);
        rulesAre(with(five, "start(2)"), "0, 0, 16", 2 + 64, 0, 0);
        for (String item : new String[] {"5", "-1", "6", "2147483647", "-2147483648"}) {
            rulesAre(with(GATE, "fill 0 2 1 " + item), "0, 1, 1", 0, 0, 0);
            rulesAre(with(GATE, "fill 0 2 1 " + item), "0, 0, 2", 0, 0, 0);
        }
        // The last numbers: START 9, STEP 9, SHROVE 6.
        rulesAre(with(NEW, "read q9,9,6;waaa;wbbb;wccc;wddd;weee;wfff;k0;", "fill 0 0 3 0 3 0 3 0 0 0 3"), "0, 0, 9", 8 + 512, 8 + 512, 64);
        promise(29, "STARTS (what = 0), STEPS (1), SHROVES (2), n ITEMS of a ROW from i on.");
        // Night 1, START 4, STEP 2: the secret is 1; rows 0 and 2 tell 1 2 3 and 4 5.
        rulesAre(BUSY, "0, 0, 1", 1 << 4 | 1 << 9, 1 << 2 | 1 << 7, 127 - 2);
        rulesAre(BUSY, "2, 0, 1", 1 << 2 | 1 << 7, 1 << 0 | 1 << 5, 0);
        rulesAre(BUSY, "7, 39, 1", 1 << 3 | 1 << 8, 1 << 1 | 1 << 6, 2);
    }

    private static void rulesAre(String[] state, String told, int starts, int steps, int shroves) {
        told(state, "rules(" + told + ", 0)", starts);
        told(state, "rules(" + told + ", 1)", steps);
        told(state, "rules(" + told + ", 2)", shroves);
    }

    private static void rulesAreRefused() {
        promise(29, "BAD: ROW, n, what");
        bounds(BUSY, "rules(#, 0, 1, 0)", 0, 7);
        bounds(BUSY, "rules(7, 0, #, 0)", 1, 16);
        bounds(BUSY, "rules(7, 0, 1, #)", 0, 2);
        refused(BUSY, BAD, "rules(8, -1, 1, 0)", "rules(1, 0, 17, 0)", "rules(1, 0, 1, 3)", "rules(0, 99, 0, 0)", "rules(1, 0, 0, 0)");
        promise(29, "STATE: no GATE (ahead of BAD)");
        refused(NO_GATE, STATE, "rules(0, 0, 1, 0)", "rules(8, 0, 1, 0)", "rules(0, 0, 0, 0)", "rules(0, 0, 17, 0)");
        refused(NO_GATE, STATE, "rules(0, 0, 1, 3)", "rules(1, 0, 1, 0)", "rules(0, 9, 1, 0)", "rules(MIN, MIN, MIN, MIN)");
        promise(29, "NULL");
        refused(BUSY, NULL, "rules(1, 0, 1, 0)", "rules(1, -1, 1, 1)", "rules(6, 40, 16, 2)");
        promise(29, "PLACE.");
        refused(BUSY, PLACE, "rules(0, -1, 1, 0)", "rules(0, 3, 1, 0)", "rules(0, 0, 4, 1)", "rules(0, 1, 3, 2)", "rules(7, 25, 16, 0)");
        refused(BUSY, PLACE, "rules(7, 40, 1, 0)", "rules(0, MAX, 16, 0)", "rules(0, MIN, 16, 0)", "rules(2, 0, 3, 0)");
        refused(with(BUSY, "row(1, 0, 0)"), PLACE, "rules(1, 0, 1, 0)");
        told(BUSY, "rules(7, 24, 16, 0)", 0);
    }

    private static void fits() {
        terms("Another row tells, WORD by WORD (as many ITEMS as there are WORDS), 1: a GUARD would take it TONIGHT (were he there), 0: not."
            + " SORTS: KINDS (bits 1 to 5) of him by which it is so; SECRETS: WORDS (bits) that were the SECRET then by which it is so"
            + " (his KIND as it is).");
        for (char sort : "ksedg".toCharArray()) {
            String[] gate = {"read " + HEARD + sort + "0;"};
            sortsAre(gate, "1 0 0 0 0 0", 2 + 8);
            sortsAre(gate, "1 1 0 0 1 0", 4);
            sortsAre(gate, "1 0 0 0 1 1", 16);
            sortsAre(gate, "1 1 0 0 1 1", 32);
            sortsAre(gate, "0 0 0 0 0 0", 0);
            sortsAre(gate, "1 1 1 1 1 1", 0);
            sortsAre(with(gate, "nights(1)"), "1 0 0 0 0 0", 2);
            sortsAre(with(gate, "nights(1)"), "0 0 0 0 0 0", 8);
            sortsAre(with(gate, "dismiss(0, 0)"), "1 0 0 0 0 0", 2 + 8);
        }
        sortsAre(with(NEW, "read " + ONE), "1", 62);
        sortsAre(with(NEW, "read " + ONE, "nights(1)"), "1", 62 - 8);
        sortsAre(with(NEW, "read " + ONE), "0", 0);
        for (String item : new String[] {"2", "-1", "257", "2147483647"}) {
            sortsAre(with(NEW, "read " + ONE), item, 0);
            secretsAre(with(NEW, "read " + ONE), item, 0);
        }
        for (int word = 0; word < 6; word++) {
            String alone = "0 0 0 0 0 0".substring(0, 2 * word) + "1" + "0 0 0 0 0 0".substring(2 * word + 1);
            secretsAre(with(NEW, "read " + SIX), alone, 1 << word);
            secretsAre(with(NEW, "read " + SIX, "dismiss(0, 0)"), alone, 1 << word);
        }
        // To the deaf one, 0, 4 and 5 are one word; a sleepy one takes nobody on odd nights, whatever the secret.
        secretsAre(with(NEW, "read " + HEARD + "d0;"), "1 0 0 0 1 1", 1 + 16 + 32);
        secretsAre(with(NEW, "read " + HEARD + "e0;"), "0 0 0 0 0 0", 0);
        secretsAre(with(NEW, "read " + HEARD + "e0;", "nights(1)"), "0 0 0 0 0 0", 63);
        secretsAre(with(NEW, "read " + HEARD + "e0;", "nights(1)"), "1 0 0 0 0 0", 0);
        promise(30, "SORTS (what = 0), SECRETS (1) by a GUARD, as many ITEMS as WORDS of a ROW from i on.");
        // The secret of BUSY is 1: 0 1 0 0 0 is as keen, sleepy (not on night 1) and deaf ones take.
        String[] busy = with(BUSY, "fill 1 1 7 7 0 1 0 0 0");
        told(busy, "fits(0, 1, 2, 0)", 2 + 16);
        told(busy, "fits(3, 1, 2, 0)", 2 + 16);
        told(busy, "fits(0, 1, 2, 1)", 2);
        told(busy, "fits(2, 1, 2, 1)", 2);
        told(busy, "fits(1, 1, 2, 1)", 0);
        told(busy, "fits(0, 1, 1, 0)", 0);
        told(BUSY, "fits(0, 7, 35, 0)", 8);
    }

    private static void sortsAre(String[] state, String items, int kinds) {
        told(with(state, "fill 0 2 " + items), "fits(0, 0, 0, 0)", kinds);
    }

    private static void secretsAre(String[] state, String items, int words) {
        told(with(state, "fill 0 2 " + items), "fits(0, 0, 0, 1)", words);
    }

    private static void fitsIsRefused() {
        promise(30, "BAD: GUARD, ROW, what");
        bounds(BUSY, "fits(#, 7, 0, 0)", 0, 3);
        bounds(BUSY, "fits(0, #, 0, 0)", 0, 7);
        bounds(BUSY, "fits(0, 7, 0, #)", 0, 1);
        refused(BUSY, BAD, "fits(4, 1, 0, 0)", "fits(0, 8, -1, 0)", "fits(0, 1, -1, 2)", "fits(-1, 0, 99, 1)");
        refused(NO_GATE, BAD, "fits(0, 0, 0, 0)", "fits(0, 1, 0, 0)", "fits(0, 0, -1, 1)", "fits(MIN, MIN, MIN, MIN)");
        promise(30, "NULL");
        refused(BUSY, NULL, "fits(0, 1, 0, 0)", "fits(3, 6, -1, 1)", "fits(0, 1, 40, 0)");
        promise(30, "PLACE.");
        refused(BUSY, PLACE, "fits(0, 7, -1, 0)", "fits(0, 7, 36, 0)", "fits(0, 7, 40, 1)", "fits(0, 7, MAX, 0)", "fits(0, 7, MIN, 1)");
        refused(BUSY, PLACE, "fits(0, 0, 0, 0)", "fits(0, 2, 0, 1)");
        refused(with(BUSY, "row(1, 0, 0)"), PLACE, "fits(0, 1, 0, 0)");
        refused(with(NEW, "read " + ONE, "row(0, 0, 1)"), PLACE, "fits(0, 0, 1, 0)", "fits(0, 0, -1, 0)");
        refused(with(NEW, "read " + MOST, "row(0, 0, 6)"), PLACE, "fits(3, 0, 1, 0)");
        // START 9 makes the secret 3, which a deaf one, on at hour 3 alone, would take.
        told(with(NEW, "read " + MOST, "fill 0 0 0 0 0 1 0 0"), "fits(3, 0, 0, 1)", 8);
    }

    private static void sure() {
        terms("SURE: the SECRET is any one of those that AGREE, all alike likely; the GUARD on at an HOUR nods by c of 10 (then he takes nobody):"
            + " that one who says a WORD then gets IN: a fraction (0 by 1, if none AGREES).");
        sureIs(with(NEW, "read " + SIX), "0, 0, 0", 5, 6);
        sureIs(with(NEW, "read " + SIX), "5, 5, 1", 17, 20);
        sureIs(with(NEW, "read " + SIX), "0, 0, 4", 9, 10);
        sureIs(with(NEW, "read " + SIX), "0, 0, 10", 1, 1);
        sureIs(with(NEW, "read " + SIX, "dismiss(0, 0)"), "0, 0, 0", 1, 1);
        sureIs(NONE_AGREES, "0, 0, 0", 0, 1);
        sureIs(NONE_AGREES, "0, 0, 10", 0, 1);
        sureIs(with(NONE_AGREES, "dismiss(0, 0)"), "0, 0, 10", 0, 1);
        // Once it is known who may say it: not 0 any more.
        sureIs(with(NEW, "read " + LAST_OF_SIX, "say(0, 0)"), "0, 0, 0", 1, 1);
        sureIs(with(NEW, "read " + LAST_OF_SIX, "say(0, 0)"), "1, 0, 0", 4, 5);
        terms("All that is divided is cut towards 0, but fractions, told as two numbers in lowest terms (0 is 0 by 1).");
        int[] above = {0, 1, 1, 3, 2, 1, 3, 7, 4, 9, 1};
        int[] below = {1, 10, 5, 10, 5, 2, 5, 10, 5, 10, 1};
        for (int c = 0; c <= 10; c++) {
            sureIs(with(NEW, "read " + ONE), "0, 0, " + c, above[c], below[c]);
        }
        promise(31, "SURE (c 0 to 10): above (what = 0), below (1).");
        // In BUSY 3 alone agrees: the sharp one takes it at hours 0 and 4.
        sureIs(BUSY, "3, 0, 0", 0, 1);
        sureIs(BUSY, "3, 4, 6", 3, 5);
        sureIs(BUSY, "3, 1, 0", 1, 1);
        sureIs(BUSY, "4, 0, 0", 1, 1);
        promise(31, "BAD.");
        bounds(BUSY, "sure(#, 0, 0, 0)", 0, 4);
        bounds(BUSY, "sure(0, #, 0, 0)", 0, 5);
        bounds(BUSY, "sure(0, 0, #, 0)", 0, 10);
        bounds(BUSY, "sure(0, 0, 0, #)", 0, 1);
        refused(NO_GATE, BAD, "sure(0, 0, 0, 0)", "sure(-1, 6, 11, 2)");
    }

    private static void sureIs(String[] state, String told, int above, int below) {
        told(state, "sure(" + told + ", 0)", above);
        told(state, "sure(" + told + ", 1)", below);
    }

    private static void drawn() {
        terms("TALE of n NIGHTS (0 to 60) by a SEED (X at first): on each X becomes the rest of (X times 16807) by 2147483647; one says the WORD"
            + " that is the rest of X by how many there are, at the HOUR that is the rest of X by 6; then the NIGHT goes by: how many are taken;"
            + " WORDS (bits) that were said and got IN.");
        // By SEED 1 X is 16807, 282475249, 1622650073, 984943658, 1144108930, 470211272, 101027544: 1 1 5 2 4 2 0 by 6.
        String[] alone = {"read " + SIX, "dismiss(0, 0)"};
        int[] said = {0, 2, 2, 34, 38, 54, 54, 55};
        for (int n = 0; n < said.length; n++) {
            told(alone, "drawn(" + n + ", 1, 0)", 0);
            told(alone, "drawn(" + n + ", 1, 1)", said[n]);
        }
        // The secret is 0 on each night: the seventh man says it.
        told(with(NEW, "read " + SIX), "drawn(6, 1, 0)", 0);
        told(with(NEW, "read " + SIX), "drawn(7, 1, 0)", 1);
        told(with(NEW, "read " + SIX), "drawn(7, 1, 1)", 54);
        // Two words: 1 1 1 0 0 0 0 are said, and the secrets 1 0 1 0 1 0 0 (night 6 by SHROVE) take 1, -, 1, 0, -, 0, 0.
        String[] two = {"read q1,1,6;waaa;wbbb;k0;"};
        int[] taken = {0, 1, 1, 2, 3, 3, 4, 5};
        int[] in = {0, 0, 2, 2, 2, 3, 3, 3};
        for (int n = 0; n < taken.length; n++) {
            told(two, "drawn(" + n + ", 1, 0)", taken[n]);
            told(two, "drawn(" + n + ", 1, 1)", in[n]);
        }
        // A guard at some hours alone: the men say it at hours 1, 1, 5, 2, 4, 2, 0 of nights 0 on: guards 1 0 1 1 0 1 0 of two.
        int[] byTheFirst = {0, 0, 1, 1, 1, 2, 2, 3};
        for (int n = 0; n < byTheFirst.length; n++) {
            told(with(NEW, "read q0,0,0;waaa;k0;k0;", "dismiss(1, 0)"), "drawn(" + n + ", 1, 0)", byTheFirst[n]);
            told(with(NEW, "read q0,0,0;waaa;k0;k0;", "dismiss(0, 0)"), "drawn(" + n + ", 1, 0)", n - byTheFirst[n]);
        }
        // Of three the guards 1 2 1 2 2 1 0 are on.
        told(with(NEW, "read q0,0,0;waaa;k0;k0;k0;", "dismiss(0, 0)", "dismiss(1, 0)"), "drawn(4, 1, 0)", 2);
        told(with(NEW, "read q0,0,0;waaa;k0;k0;k0;", "dismiss(1, 0)", "dismiss(2, 0)"), "drawn(6, 1, 0)", 0);
        told(with(NEW, "read q0,0,0;waaa;k0;k0;k0;", "dismiss(1, 0)", "dismiss(2, 0)"), "drawn(7, 1, 0)", 1);
        told(with(NEW, "read " + ONE), "drawn(60, 1, 0)", 60);
        told(with(NEW, "read " + ONE), "drawn(60, 999999, 1)", 0);
        promise(32, "TALE by a SEED (1 to 999999): how many (what = 0), WORDS (1).");
        // SEED 999999: X is 1774597664, 2 by 6; SEED 127773: X is 2147480811, 3 by 6.
        told(alone, "drawn(1, 999999, 1)", 4);
        told(alone, "drawn(1, 127773, 1)", 1 << (int) (127773L * 16807L % 2147483647L % 6));
        promise(32, "BAD");
        bounds(BUSY, "drawn(#, 1, 0)", 0, 60);
        bounds(BUSY, "drawn(1, #, 0)", 1, 999999);
        bounds(BUSY, "drawn(0, 1, #)", 0, 1);
        promise(32, "STATE: no GATE (ahead of BAD).");
        refused(NO_GATE, STATE, "drawn(0, 1, 0)", "drawn(-1, 1, 0)", "drawn(61, 1, 0)", "drawn(1, 0, 0)", "drawn(1, 1000000, 0)", "drawn(1, 1, 2)");
    }
}
