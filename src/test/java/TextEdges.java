/** The edges of promises 6 to 8, and of texts and faults. */
final class TextEdges extends Edges {
    /** Six words and four guards, all numbers of two figures: no gate is told by more bytes, 56. */
    private static final String LONGEST = "q09,09,06;waaa;wbbb;wccc;wddd;weee;wfff;k09;s09;e09;d09;";
    /** Bytes that are no token, on both sides of those that are. */
    private static final int[] NO_TOKENS = {0, 9, 10, 13, 32, 33, 43, 45, 46, 47, 58, 60, 64, 65, 81, 90, 96, 123, 125, 127, 128, 225, 255};

    private TextEdges() {
    }

    static void run() {
        tape();
        tokens();
        grammar();
        law();
        words();
        guards();
        newGate();
        faultsOne();
        faultsTwo();
        faultsThree();
        leastOfOneToken();
        gateAndFault();
    }

    private static void faulty(String text, int place, int number) {
        after("tape " + text).due("gate()", FAULTY - place).due("fault()", number).due("count(7)", 0).due("count(1)", 0);
    }

    private static void read(String text, int words) {
        after("tape " + text).due("gate()", words).due("fault()", 0).due("count(7)", 0).due("count(1)", words);
    }

    private static void tape() {
        terms("TEXTS: THE TAPE has at most 100 bytes, that come one by one;");
        after("99 * feed(113)").due("count(7)", 99).due("feed(113)", 100).due("feed(113)", FULL).due("count(7)", 100);
        promise(6, "A byte (0 to 255) comes behind the tape: how many it has.");
        bounds(BUSY, "feed(#)", 0, 255);
        after(BUSY).due("count(7)", 4).due("feed(0)", 5).due("feed(255)", 6).due("status()", 1);
        after().due("feed(0)", 1).due("feed(113)", 2).due("gate()", FAULTY);
        after().due("feed(113)", 1).due("feed(0)", 2).due("gate()", FAULTY - 1);
        promise(6, "BAD");
        refused(NO_GATE, BAD, "feed(-1)", "feed(256)", "feed(-128)", "feed(MIN)", "feed(MAX)");
        promise(6, "FULL");
        String[] full = {"tape " + LONGEST, "44 * feed(107)", "set(3, 0, 0)"};
        refused(full, FULL, "feed(97)", "feed(0)", "feed(255)");
        refused(full, BAD, "feed(256)", "feed(-1)");
        after(full).due("gate()", FAULTY - 56).due("fault()", 3).due("feed(97)", 1);
    }

    private static void tokens() {
        terms("TOKENS: letters a to z (each by itself), NUMBERS (figures, 2 at most), SIGNS , and ; nothing else, no blanks.");
        read("q0,0,0;wamz;wzma;k0;", 2);
        after("read q0,0,0;waqz;k0;").due("letter(0, 0)", 0).due("letter(0, 1)", 16).due("letter(0, 2)", 25);
        // Every byte of a text in its turn is one that is no token.
        for (int i = 0; i < ONE.length(); i++) {
            for (int letter : NO_TOKENS) {
                faulty(ONE.substring(0, i) + (char) letter + ONE.substring(i + 1), i, 1);
            }
            faulty(ONE.substring(0, i) + ' ' + ONE.substring(i), i, 1);
        }
        faulty(ONE + ' ', ONE.length(), 1);
        faulty(ONE + '\n', ONE.length(), 1);
        faulty(ONE + (char) 0, ONE.length(), 1);
    }

    private static void grammar() {
        terms("gate: law word { word } guard { guard }.");
        read(ONE, 1);
        read(MOST, 6);
        faulty("waaa;k0;", 0, 1);
        faulty("k0;", 0, 1);
        faulty("q0,0,0;", 7, 1);
        faulty("q0,0,0;k0;", 7, 1);
        faulty("q0,0,0;waaa;", 12, 1);
        faulty("q0,0,0;q0,0,0;waaa;k0;", 7, 1);
        faulty("q0,0,0;waaa;q0,0,0;k0;", 12, 1);
        faulty("q0,0,0;waaa;k0;waab;k0;", 15, 1);
        faulty("q0,0,0;waaa;k0;q0,0,0;", 15, 1);
        faulty("q0,0,0;waaa;k0;;", 15, 1);
        faulty("q0,0,0;;waaa;k0;", 7, 1);
        faulty("q0,0,0;waaa;;k0;", 12, 1);
    }

    private static void law() {
        terms("law: q START , STEP , SHROVE ; (0 to 9; 0 to 9; 0 to 6).");
        String rest = ";waaa;wbbb;k0;";
        for (String nine : new String[] {"0", "9", "00", "09"}) {
            int value = Integer.parseInt(nine);
            after("tape q" + nine + ",0,6" + rest).due("gate()", 2).due("count(8)", value).due("secret(0)", value % 2);
            // On night 1 STEP counts once.
            after("tape q0," + nine + ",6" + rest).due("gate()", 2).due("secret(1)", value % 2);
        }
        for (String six : new String[] {"0", "6", "00", "06"}) {
            after("tape q1,0," + six + rest).due("gate()", 2).due("secret(" + Integer.parseInt(six) + ")", 0).due("secret(1)", 1);
        }
        faulty("q10,0,0" + rest, 1, 2);
        faulty("q99,0,0" + rest, 1, 2);
        faulty("q0,10,0" + rest, 3, 2);
        faulty("q0,99,0" + rest, 3, 2);
        faulty("q0,0,7" + rest, 5, 2);
        faulty("q0,0,07" + rest, 5, 2);
        faulty("q0,0,9" + rest, 5, 2);
        faulty("q0,0,10" + rest, 5, 2);
        faulty("q0,0,99" + rest, 5, 2);
        faulty("q00,00,07" + rest, 7, 2);
        faulty("q0;0,0" + rest, 2, 1);
        faulty("q0,0;0" + rest, 4, 1);
        faulty("q0,0,0,waaa;k0;", 6, 1);
        faulty("q,0,0" + rest, 1, 1);
        faulty("q0,,0" + rest, 3, 1);
        faulty("q0,0," + rest, 5, 1);
        faulty("q0,0,0,0" + rest, 6, 1);
    }

    private static void words() {
        terms("word: w and three letters, then ; (any letters; not all as those of a word told ahead of it; WORDS 0 .. 5, 6 at most).");
        read("q0,0,0;wwww;wqqq;wksd;k0;", 3);
        after("read q0,0,0;wwww;wqks;k0;").due("letter(0, 0)", 22).due("letter(0, 2)", 22).due("letter(1, 0)", 16).due("letter(1, 1)", 10);
        read("q0,0,0;wabc;wabd;wacc;wbbc;wcba;wbca;k0;", 6);
        after("read " + MOST).due("letter(5, 2)", 5).due("letter(6, 0)", BAD).due("letter(-1, 0)", BAD);
        faulty("q0,0,0;w;k0;", 8, 1);
        faulty("q0,0,0;wa;k0;", 9, 1);
        faulty("q0,0,0;wab;k0;", 10, 1);
        faulty("q0,0,0;wabcd;k0;", 11, 1);
        faulty("q0,0,0;wabc,k0;", 11, 1);
        faulty("q0,0,0;wabck0;", 11, 1);
        faulty("q0,0,0;wa1c;k0;", 9, 1);
        faulty("q0,0,0;w123;k0;", 8, 1);
    }

    private static void guards() {
        terms("guard: SORT FEE ; (SORT: k a keen one, s a sharp one, e a sleepy one, d a deaf one, g a sergeant;"
            + " 0 to 9; GUARDS 0 .. 3, 4 at most).");
        String sorts = "ksedg";
        for (int i = 0; i < sorts.length(); i++) {
            after("read q0,0,0;waaa;" + sorts.charAt(i) + "7;").due("kind(0)", i + 1).due("guard(0, 0)", 7);
        }
        for (char letter = 'a'; letter <= 'z'; letter++) {
            if (sorts.indexOf(letter) < 0) {
                faulty("q0,0,0;waaa;k0;" + letter + "0;", 15, 1);
            }
        }
        for (String fee : new String[] {"0", "9", "00", "09"}) {
            after("tape q0,0,0;waaa;g" + fee + ";").due("gate()", 1).due("guard(0, 0)", Integer.parseInt(fee));
        }
        faulty("q0,0,0;waaa;k10;", 13, 2);
        faulty("q0,0,0;waaa;k99;", 13, 2);
        faulty("q0,0,0;waaa;k;", 13, 1);
        faulty("q0,0,0;waaa;ka;", 13, 1);
        faulty("q0,0,0;waaa;k0,", 14, 1);
        faulty("q0,0,0;waaa;k0k0;", 14, 1);
        after("read " + MOST).due("count(2)", 4).due("guard(3, 0)", 9).due("guard(4, 0)", BAD).due("guard(-1, 0)", BAD);
    }

    private static void newGate() {
        terms("A GATE that is read stands in place of the one before (none at first): NIGHT 0, nobody has tried, all GUARDS are there,"
            + " TOOK nobody; no ACT can be undone.");
        after().due("count(1)", 0).due("count(2)", 0).due("secret(0)", STATE);
        Calls x = after(BUSY).then("gate()").due("count(1)", 5).then("read " + MOST).due("count(1)", 6).due("count(2)", 4);
        x.due("count(3)", 0).due("count(4)", 0).due("count(5)", 15).due("count(6)", 0).due("count(8)", 9).due("count(9)", 0);
        x.due("undo()", STATE).due("tried(0, 0)", BAD).due("agree()", 63).due("guard(0, 1)", 0).due("letter(0, 2)", 0);
        Calls y = after(BUSY).then("gate()", "read " + ONE).due("letter(1, 0)", BAD).due("guard(1, 0)", BAD).due("count(5)", 1);
        y.due("secret(60)", 0).due("count(0)", 3).due("status()", 1).due("restore(0)", 1).due("count(1)", 5);
        // The very same text once more.
        Calls z = after(GATE).then("say(1, 0)", "dismiss(0, 0)", "nights(2)", "start(0)", "read " + FIVE);
        same(z.view(), after(GATE).view(), "the same text once more");
    }

    private static void faultsOne() {
        terms("FAULTS, the first TOKEN that has one (its first byte), of one TOKEN the least: 1 it cannot stand there, or is none"
            + " (a run of three figures, at its first; the end: how many bytes there are);");
        for (int length = 0; length < MOST.length(); length++) {
            boolean whole = length == 40 || length == 43 || length == 46;
            if (whole) {
                read(MOST.substring(0, length), 6);
            } else {
                faulty(MOST.substring(0, length), length, 1);
            }
        }
        faulty("q000,0,0;waaa;k0;", 1, 1);
        faulty("q009,0,0;waaa;k0;", 1, 1);
        faulty("q0,000,0;waaa;k0;", 3, 1);
        faulty("q0,0,006;waaa;k0;", 5, 1);
        faulty("q0,0,0;waaa;k009;", 13, 1);
        faulty("q999,99,99;", 1, 1);
        faulty("q0000", 1, 1);
        faulty("q00000,", 1, 1);
        faulty("q123", 1, 1);
        faulty("123", 0, 1);
        faulty("q0,0,0;123", 7, 1);
        // Of two faults the first, though it is the greater.
        faulty("q10,x", 1, 2);
        faulty("q0,0,7;waaa;waaa;", 5, 2);
        // The end inside a number is behind it.
        faulty("q1", 2, 1);
        faulty("q01", 3, 1);
    }

    private static void faultsTwo() {
        terms("2 a NUMBER that is not as told, the third letter of a WORD that was told already;");
        faulty("q10", 1, 2);
        faulty("q0,10", 3, 2);
        faulty("q0,0,7", 5, 2);
        faulty("q0,0,0;waaa;k10", 13, 2);
        faulty("q0,0,0;waaa;k0;s0;d0;g10;", 22, 2);
        faulty("q0,0,0;waaa;waaa;k0;", 15, 2);
        faulty("q0,0,0;waaa;waaa", 15, 2);
        faulty("q0,0,0;waaa;wbbb;waaa;k0;", 20, 2);
        faulty("q0,0,0;waaa;wbbb;wbbb;k0;", 20, 2);
        faulty("q0,0,0;waaa;wbbb;wccc;wddd;weee;waaa;k0;", 35, 2);
        faulty("q0,0,0;waaa;wbbb;wccc;wddd;weee;weee;k0;", 35, 2);
        faulty("q0,0,0;waaa;waaax", 15, 2);
        faulty("q0,0,0;waaa;waa;", 15, 1);
    }

    private static void faultsThree() {
        terms("3 a word, a guard more than there is room for (its letter).");
        String six = MOST.substring(0, 37);
        read(six + "k0;", 6);
        faulty(six + "wggg;k0;", 37, 3);
        faulty(six + "waaa;k0;", 37, 3);
        faulty(six + "w", 37, 3);
        faulty(six + "w1", 37, 3);
        for (char sort : "ksedg".toCharArray()) {
            faulty(MOST + sort + "0;", 49, 3);
            faulty(MOST + sort, 49, 3);
            faulty(MOST + sort + "10;", 49, 3);
        }
        faulty("q0,0,0;waaa;k0;k0;k0;k0;k0;", 24, 3);
        read("q0,0,0;waaa;k0;k0;k0;k0;", 1);
    }

    private static void leastOfOneToken() {
        terms("of one TOKEN the least");
        // A word's letter where no word may stand, and there is no room for one either.
        faulty(MOST + "w", 49, 1);
        faulty(MOST.substring(0, 40) + "wggg;", 40, 1);
        // A number that is too great where none may stand.
        faulty("99", 0, 1);
        faulty("q0,0,0;99", 7, 1);
        faulty(MOST + "99", 49, 1);
        // Three figures that are too great a number, too.
        faulty("q100,", 1, 1);
        faulty("q0,0,0;waaa;k999;", 13, 1);
        faulty(MOST + "q", 49, 1);
    }

    private static void gateAndFault() {
        promise(7, "The tape, empty then, is read: how many WORDS there are.");
        read(ONE, 1);
        read(LONGEST, 6);
        after("read " + ONE).due("count(7)", 0).due("gate()", FAULTY).due("fault()", 1).due("count(1)", 1);
        after("read " + MOST).due("feed(113)", 1).due("gate()", FAULTY - 1).due("feed(113)", 1);
        after().due("gate()", FAULTY).due("gate()", FAULTY).due("count(7)", 0);
        // What was on it ahead is no part of the next text.
        after("read q12345,1234").due("count(7)", 0).then("tape q1").due("gate()", FAULTY - 2).due("fault()", 1);
        after("read " + LONGEST, "tape q9,9,6").due("gate()", FAULTY - 6).due("fault()", 1);
        after("read q0,0,0;waaa;k99;", "tape q0,0,0;waaa;k9").due("gate()", FAULTY - 14).due("fault()", 1);
        promise(7, "-1000100 less the place of a FAULT: all stays.");
        for (String text : new String[] {"", "q", "q10", "x", MOST + "k", ONE + "w", "q0,0,0;waaa;waaa", ONE + "\u00ff"}) {
            Calls x = after(BUSY).then("gate()", "tape " + text);
            int answer = x.answer("gate()");
            x.due("status()", 1);
            same(x.view(), after(BUSY).then("gate()").view(), "gate() = " + answer + " of " + text);
        }
        after(NO_GATE).due("gate()", FAULTY - 2).due("secret(0)", STATE).due("count(0)", 1);
        after("tape " + LONGEST + LONGEST.substring(0, 44)).due("gate()", FAULTY - 56).due("fault()", 1);
        promise(8, "The number of the latest FAULT");
        after("tape q10").due("fault()", 0).then("gate()").due("fault()", 2).then("read q").due("fault()", 1);
        after("tape " + MOST + "k0;").due("gate()", FAULTY - 49).due("fault()", 3).then("read " + ONE).due("fault()", 3);
        after("read q10", "read " + ONE, "say(0, 0)", "feed(256)").due("fault()", 2).due("gate()", FAULTY).due("fault()", 1);
        promise(8, "0 before one.");
        after().due("fault()", 0);
        after("read " + ONE).due("fault()", 0).due("fault()", 0);
    }
}
