/** The promises of the document one by one: ordinary inputs, the edges that it names, and wrong inputs. */
public final class PromiseTest {
    private static final int NONE = -1000000, BAD = -1000001, STATE = -1000002, FULL = -1000003;
    private static final int NULL = -1000011, PLACE = -1000012, KIND = -1000013, SIZE = -1000014, STORE = -1000015;
    private static final int MIN = Integer.MIN_VALUE, MAX = Integer.MAX_VALUE;

    /** By the deaf 0, 2 and 4 are one word; secrets of nights 0 on: 1 3 0 0 4 1 3 0 2 4 0. */
    private static final String FIVE = "q1,2,3;wabc;wabd;wfgh;wzzz;wkbc;k3;s5;d2;g9;";
    /** Secrets of nights 0 on: 0 1 2 0 1 2 0 1 2; the sleepy one is on at the even hours of even nights. */
    private static final String THREE = "q0,1,6;waaa;waab;wbcd;e4;k0;";
    /** Six words that have nothing in common, at a gate whose secret is START on night 0. */
    private static final String SIX = "q0,0,6;waaa;wbbb;wccc;wddd;weee;wmlk;k1;";

    private static int wrong = 0;
    private static int promise = 0;

    private static void due(String call, long got, long want) {
        if (got != want) {
            wrong++;
            System.out.println("promise " + promise + ": " + call + " answered " + got + ", due is " + want);
        }
    }

    private static int read(WrongWord x, String text) {
        for (int i = 0; i < text.length(); i++) {
            x.feed(text.charAt(i));
        }
        return x.gate();
    }

    private static WrongWord at(String text) {
        WrongWord x = new WrongWord();
        read(x, text);
        return x;
    }

    private static void fill(WrongWord x, int row, int lane, int... items) {
        x.row(row, lane, items.length);
        for (int i = 0; i < items.length; i++) {
            x.set(row, i, items[i]);
        }
    }

    /** An item of 0 to 5, as the gate SIX tells it on night 0: the one START by which it is the secret, and that with 6 added. */
    private static int item(WrongWord x, int row, int i) {
        return Integer.numberOfTrailingZeros(x.rules(row, i, 1, 0));
    }

    private static int items(WrongWord x, int row, int n) {
        int all = 0;
        for (int i = 0; i < n; i++) {
            all = all * 10 + item(x, row, i);
        }
        return all;
    }

    /** All that count() tells, and the gate as far as it can be seen, in one number. */
    private static long seen(WrongWord x) {
        long all = 17;
        for (int what = 0; what < 10; what++) {
            all = all * 31 + x.count(what);
        }
        for (int i = 0; i < 9; i++) {
            all = all * 31 + x.secret(i);
            all = all * 31 + x.tried(i, 0) + 7L * x.tried(i, 1) + 11L * x.tried(i, 2);
            all = all * 31 + x.trace(i);
        }
        for (int i = 0; i < 4; i++) {
            all = all * 31 + x.guard(i, 0) + 3L * x.guard(i, 1) + 5L * x.guard(i, 2) + 7L * x.guard(i, 3) + 11L * x.kind(i);
        }
        for (int i = 0; i < 6; i++) {
            all = all * 31 + x.letter(i, 0) + 26L * x.letter(i, 1) + 676L * x.letter(i, 2);
        }
        return all;
    }

    private static void newObject() {
        promise = 1;
        WrongWord x = new WrongWord();
        for (int what = 0; what < 10; what++) {
            due("count(" + what + ")", x.count(what), 0);
        }
        due("status()", x.status(), 0);
        due("fault()", x.fault(), 0);
        due("trace(0)", x.trace(0), NONE);
        due("undo()", x.undo(), STATE);
        due("secret(0)", x.secret(0), STATE);
        due("restore(0)", x.restore(0), STATE);
        for (int row = 0; row < 8; row++) {
            due("drop", x.drop(row), NULL);
        }
    }

    private static void row() {
        promise = 2;
        WrongWord x = at(SIX);
        due("row(0, 0, 0)", x.row(0, 0, 0), 0);
        due("row(7, 2, 40)", x.row(7, 2, 40), 40);
        due("count(0)", x.count(0), 2);
        fill(x, 1, 1, 3, 4, 5);
        due("items", items(x, 1, 3), 345);
        due("row(1, 0, 2)", x.row(1, 0, 2), 2);
        due("items are 0 again", items(x, 1, 2), 0);
        due("lane and places are new", x.set(1, 1, 200), -56);
        due("set(1, 2, 0)", x.set(1, 2, 0), PLACE);
        due("row(1, 2, 3)", x.row(1, 2, 3), 3);
        due("items that a shorter row hid are 0", items(x, 1, 3), 0);
        due("count(0)", x.count(0), 3);
        due("row(1, 0, -1)", x.row(1, 0, -1), SIZE);
        due("status()", x.status(), 4);
        due("row(2, 0, MIN)", x.row(2, 0, MIN), SIZE);
        due("row(-1, 0, 1)", x.row(-1, 0, 1), BAD);
        due("row(8, 0, -1)", x.row(8, 0, -1), BAD);
        due("row(1, -1, 1)", x.row(1, -1, 1), BAD);
        due("row(1, 3, -1)", x.row(1, 3, -1), BAD);
        due("row(1, 0, 41)", x.row(1, 0, 41), BAD);
        due("row(1, 0, MAX)", x.row(1, 0, MAX), BAD);
        due("status() is not changed by BAD", x.status(), 4);
        due("count(0)", x.count(0), 3);
        due("drop(1): what is refused changes nothing", x.drop(1), 3);
    }

    private static void set() {
        promise = 3;
        WrongWord x = at(SIX);
        x.row(0, 0, 3);
        x.row(1, 1, 3);
        x.row(2, 2, 3);
        due("set(0, 0, 127)", x.set(0, 0, 127), 127);
        due("set(0, 0, 128)", x.set(0, 0, 128), -128);
        due("set(0, 0, -129)", x.set(0, 0, -129), 127);
        due("set(0, 2, 256)", x.set(0, 2, 256), 0);
        due("set(1, 0, 32767)", x.set(1, 0, 32767), 32767);
        due("set(1, 0, 32768)", x.set(1, 0, 32768), -32768);
        due("set(1, 2, 65539)", x.set(1, 2, 65539), 3);
        due("it is kept so", item(x, 1, 2), 3);
        due("set(2, 0, MIN)", x.set(2, 0, MIN), MIN);
        due("set(2, 2, MAX)", x.set(2, 2, MAX), MAX);
        due("set(2, 1, 5)", x.set(2, 1, 5), 5);
        due("status()", x.status(), 0);
        due("set(2, 3, 1)", x.set(2, 3, 1), PLACE);
        due("status()", x.status(), 2);
        due("set(2, -1, 1)", x.set(2, -1, 1), PLACE);
        due("set(3, -1, 1)", x.set(3, -1, 1), NULL);
        due("status()", x.status(), 1);
        due("set(-1, 0, 1)", x.set(-1, 0, 1), BAD);
        due("set(8, 0, 1)", x.set(8, 0, 1), BAD);
        due("status()", x.status(), 1);
        due("what is found changes nothing", item(x, 2, 1), 5);
    }

    private static void copy() {
        promise = 4;
        WrongWord x = at(SIX);
        fill(x, 0, 0, 1, 2, 3, 4, 5);
        fill(x, 1, 0, 0, 0, 0);
        fill(x, 2, 1, 0, 0, 0);
        due("copy(0, 1, 1, 0, 3)", x.copy(0, 1, 1, 0, 3), 3);
        due("to", items(x, 1, 3), 234);
        due("from", items(x, 0, 5), 12345);
        due("copy(0, 0, 0, 1, 4)", x.copy(0, 0, 0, 1, 4), 4);
        due("onto itself, behind", items(x, 0, 5), 11234);
        due("copy(0, 2, 0, 0, 3)", x.copy(0, 2, 0, 0, 3), 3);
        due("onto itself, ahead", items(x, 0, 5), 23434);
        due("copy(0, 5, 1, 3, 0)", x.copy(0, 5, 1, 3, 0), 0);
        due("status()", x.status(), 0);
        due("i beyond", x.copy(0, 6, 1, 0, 0), PLACE);
        due("j beyond", x.copy(0, 0, 1, 4, 0), PLACE);
        due("from's end", x.copy(0, 3, 1, 0, 3), PLACE);
        due("to's end", x.copy(0, 0, 1, 1, 3), PLACE);
        due("i below 0", x.copy(0, -1, 1, 0, 1), PLACE);
        due("j below 0", x.copy(0, 0, 1, -1, 1), PLACE);
        due("n below 0", x.copy(0, 0, 1, 0, -1), PLACE);
        due("sums that wrap around", x.copy(0, MAX, 1, 1, MAX), PLACE);
        due("sums that wrap around", x.copy(0, 1, 1, MAX, 1), PLACE);
        due("sums that wrap around", x.copy(0, MIN, 1, MIN, MIN), PLACE);
        due("status()", x.status(), 2);
        due("STORE ahead of PLACE", x.copy(0, -1, 2, 0, 1), STORE);
        due("STORE of none", x.copy(2, 0, 1, 0, 0), STORE);
        due("status()", x.status(), 5);
        due("NULL of a", x.copy(3, -1, 2, 0, 1), NULL);
        due("NULL of b", x.copy(0, -1, 3, 0, 1), NULL);
        due("NULL of both", x.copy(3, 0, 3, 0, 0), NULL);
        due("status()", x.status(), 1);
        due("BAD a", x.copy(8, 0, 3, 0, 1), BAD);
        due("BAD b", x.copy(3, 0, -1, 0, 1), BAD);
        due("BAD a", x.copy(-1, 0, 0, 0, 1), BAD);
        due("BAD b", x.copy(0, 0, 8, 0, 1), BAD);
        due("status()", x.status(), 1);
        due("nothing has changed", items(x, 0, 5) * 1000 + items(x, 1, 3), 23434234);
    }

    private static void drop() {
        promise = 5;
        WrongWord x = new WrongWord();
        x.row(0, 0, 0);
        x.row(3, 2, 17);
        due("drop(3)", x.drop(3), 17);
        due("status()", x.status(), 0);
        due("count(0)", x.count(0), 1);
        due("drop(3)", x.drop(3), NULL);
        due("status()", x.status(), 1);
        due("set(3, 0, 1)", x.set(3, 0, 1), NULL);
        due("drop(0)", x.drop(0), 0);
        due("drop(-1)", x.drop(-1), BAD);
        due("drop(8)", x.drop(8), BAD);
        due("status()", x.status(), 0);
        due("count(0)", x.count(0), 0);
    }

    private static void feed() {
        promise = 6;
        WrongWord x = new WrongWord();
        due("feed(-1)", x.feed(-1), BAD);
        due("feed(256)", x.feed(256), BAD);
        due("feed(0)", x.feed(0), 1);
        due("feed(255)", x.feed(255), 2);
        for (int n = 3; n <= 100; n++) {
            due("feed(97)", x.feed(97), n);
        }
        due("feed(97)", x.feed(97), FULL);
        due("feed(256)", x.feed(256), BAD);
        due("count(7)", x.count(7), 100);
        x.gate();
        due("feed(97)", x.feed(97), 1);
        due("status()", x.status(), 0);
    }

    private static void faulty(String text, int place, int number) {
        WrongWord x = at(FIVE);
        x.say(1, 0);
        x.nights(2);
        x.say(0, 0);
        x.dismiss(2, 0);
        long ahead = seen(x);
        due("gate() of " + text, read(x, text), -1000100 - place);
        due("fault() of " + text, x.fault(), number);
        due("the tape of " + text, x.count(7), 0);
        due("all stays of " + text, seen(x), ahead);
        due("acts stay", x.undo(), 4);
    }

    private static void gate() {
        promise = 7;
        WrongWord x = new WrongWord();
        due("gate() of FIVE", read(x, FIVE), 5);
        due("count(2)", x.count(2), 4);
        due("gate() of the least", read(x, "q0,0,0;waaa;k0;"), 1);
        due("gate() of the most", read(x, "q9,9,6;waaa;wbbb;wccc;wddd;weee;wfff;k9;s9;e9;d9;"), 6);
        due("count(8)", x.count(8), 9);
        due("numbers of two figures", read(x, "q09,00,06;wqwk;wkwq;g09;e00;"), 2);
        due("count(8)", x.count(8), 9);
        due("guard(0, 0)", x.guard(0, 0), 9);
        due("guard(1, 0)", x.guard(1, 0), 0);
        due("letter(0, 1)", x.letter(0, 1), 22);
        due("the first guard takes one", x.say(1, 0), 1);
        x.nights(3);
        x.dismiss(0, 0);
        x.start(4);
        due("gate() of THREE", read(x, THREE), 3);
        due("NIGHT", x.count(3), 0);
        due("tries", x.count(4), 0);
        due("there", x.count(5), 3);
        due("ACTS", x.count(6), 0);
        due("START", x.count(8), 0);
        due("TOOK", x.count(9), 0);
        due("undo()", x.undo(), STATE);
        due("status()", x.status(), 0);
        faults();
    }

    private static void faults() {
        faulty("", 0, 1);
        faulty("q", 1, 1);
        faulty("Q1,1,1;", 0, 1);
        faulty("w", 0, 1);
        faulty(" q1,1,1;", 0, 1);
        faulty("qa", 1, 1);
        faulty("q,", 1, 1);
        faulty("q10,1,1;", 1, 2);
        faulty("q100,1,1;", 1, 1);
        faulty("q001,1,1;", 1, 1);
        faulty("q1234", 1, 1);
        faulty("q1;", 2, 1);
        faulty("q1,10,9;", 3, 2);
        faulty("q1,111,9;", 3, 1);
        faulty("q1,1;1;", 4, 1);
        faulty("q1,1,7;", 5, 2);
        faulty("q1,1,07;", 5, 2);
        faulty("q1,1,16;", 5, 2);
        faulty("q1,1,6,", 6, 1);
        faulty("q1,1,6", 6, 1);
        faulty("q1,1,6;", 7, 1);
        faulty("q1,1,6;k1;", 7, 1);
        faulty("q1,1,6;12", 7, 1);
        faulty("q1,1,6;w", 8, 1);
        faulty("q1,1,6;wA", 8, 1);
        faulty("q1,1,6;wa1", 9, 1);
        faulty("q1,1,6;wab{", 10, 1);
        faulty("q1,1,6;wab`", 10, 1);
        faulty("q1,1,6;wabcd", 11, 1);
        faulty("q1,1,6;wabc;", 12, 1);
        faulty("q1,1,6;wabc;x", 12, 1);
        faulty("q1,1,6;wabc;q", 12, 1);
        faulty("q1,1,6;wabc;wabc;", 15, 2);
        faulty("q1,1,6;wabc;wabd;wabd", 20, 2);
        faulty("q1,1,6;wabc;wab", 15, 1);
        faulty("q1,1,6;wabc;k", 13, 1);
        faulty("q1,1,6;wabc;kk", 13, 1);
        faulty("q1,1,6;wabc;k10;", 13, 2);
        faulty("q1,1,6;wabc;k010;", 13, 1);
        faulty("q1,1,6;wabc;k9", 14, 1);
        faulty("q1,1,6;wabc;k9,", 14, 1);
        faulty("q1,1,6;wabc;k9;wabd;", 15, 1);
        faulty("q1,1,6;wabc;k9;;", 15, 1);
        faulty("q1,1,6;wabc;k9;q", 15, 1);
        faulty("q1,1,6;waaa;wbbb;wccc;wddd;weee;wfff;wggg;k1;", 37, 3);
        faulty("q1,1,6;waaa;wbbb;wccc;wddd;weee;wfff;w", 37, 3);
        faulty("q1,1,6;wabc;k9;s9;e9;d9;g9;", 24, 3);
        faulty("q1,1,6;wabc;k9;s9;e9;d9;g", 24, 3);
        faulty("q1,1,6;wabc;k9;s9;e9;d9;w", 24, 1);
        faulty("q1,1,6;wabc;k9;s9;e9;d9;1", 24, 1);
    }

    private static void fault() {
        promise = 8;
        WrongWord x = new WrongWord();
        due("fault()", x.fault(), 0);
        read(x, THREE);
        due("fault()", x.fault(), 0);
        read(x, "q99");
        due("fault()", x.fault(), 2);
        read(x, THREE);
        due("fault() is the latest one, behind a gate too", x.fault(), 2);
        read(x, "z");
        due("fault()", x.fault(), 1);
        read(x, "q1,1,6;wabc;k9;s9;e9;d9;g9;");
        due("fault()", x.fault(), 3);
    }

    private static void nights() {
        promise = 9;
        WrongWord x = new WrongWord();
        due("no gate, n BAD", x.nights(0), STATE);
        due("no gate", x.nights(1), STATE);
        read(x, FIVE);
        due("nights(0)", x.nights(0), BAD);
        due("nights(25)", x.nights(25), BAD);
        due("nights(-1)", x.nights(-1), BAD);
        due("count(3)", x.count(3), 0);
        due("count(6)", x.count(6), 0);
        x.say(1, 0);
        due("nights(1)", x.nights(1), 3);
        due("tries", x.count(4), 0);
        due("TOOK stays", x.guard(0, 1), 1);
        due("nights(2)", x.nights(2), 0);
        due("count(3)", x.count(3), 3);
        due("an act each", x.count(6), 4);
        due("nights(5)", x.nights(5), 2);
        due("nights(24)", x.nights(24), 0);
        due("24 at most are kept", x.count(6), 24);
        for (int i = 0; i < 40; i++) {
            x.nights(24);
        }
        due("count(3)", x.count(3), 992);
        due("beyond 999", x.nights(8), FULL);
        due("BAD ahead of FULL", x.nights(25), BAD);
        due("count(3)", x.count(3), 992);
        due("to 999", x.nights(7), (1 + 2 * 999) % 5);
        due("beyond 999", x.nights(1), FULL);
        due("count(3)", x.count(3), 999);
        due("secret(60) beyond 999", x.secret(60), (1 + 2 * 1059) % 5);
    }

    private static void say() {
        promise = 10;
        WrongWord x = new WrongWord();
        due("no gate", x.say(0, 0), BAD);
        read(x, FIVE);
        due("keen, the secret", x.say(1, 0), 1);
        due("keen, another", x.say(0, 4), 0);
        due("sharp, one letter off", x.say(0, 1), 1);
        due("sharp, two letters off", x.say(4, 5), 0);
        due("deaf, two lips", x.say(0, 2), 0);
        due("deaf, the secret", x.say(1, 2), 1);
        due("sergeant, two lips", x.say(2, 3), 1);
        due("sergeant, one", x.say(3, 3), 0);
        due("TOOK", x.guard(0, 1) * 1000 + x.guard(1, 1) * 100 + x.guard(2, 1) * 10 + x.guard(3, 1), 1111);
        due("count(4)", x.count(4), 8);
        due("say(-1, 0)", x.say(-1, 0), BAD);
        due("say(5, 0)", x.say(5, 0), BAD);
        due("say(0, -1)", x.say(0, -1), BAD);
        due("say(0, 6)", x.say(0, 6), BAD);
        due("the ninth", x.say(1, 0), 1);
        due("the tenth", x.say(1, 0), FULL);
        due("BAD ahead of FULL", x.say(5, 0), BAD);
        due("count(4)", x.count(4), 9);
        due("TOOK", x.guard(0, 1), 2);
        due("an act each", x.count(6), 9);
        x.nights(2);
        due("deaf, other letters", x.say(2, 0), 1);
        due("deaf, other letters", x.say(4, 4), 1);
        due("the secret of night 2", x.secret(0), 0);
        x.dismiss(2, 0);
        due("who is dismissed takes nobody", x.say(0, 0), 0);
        due("TOOK", x.guard(2, 1), 3);
        sleepy();
    }

    private static void sleepy() {
        WrongWord x = at(THREE);
        due("sleepy, even night", x.say(0, 0), 1);
        due("sleepy, even night, one letter off", x.say(1, 0), 0);
        x.nights(1);
        due("sleepy, odd night", x.say(1, 1), 0);
        due("keen, odd night", x.say(1, 0), 1);
        due("the guard of night and hour", x.tried(0, 1), 0);
        due("the guard of night and hour", x.tried(1, 1), 1);
    }

    private static void start() {
        promise = 11;
        WrongWord x = new WrongWord();
        due("no gate, v BAD", x.start(10), STATE);
        due("no gate", x.start(0), STATE);
        read(x, FIVE);
        due("start(-1)", x.start(-1), BAD);
        due("start(10)", x.start(10), BAD);
        due("count(6)", x.count(6), 0);
        x.say(1, 0);
        due("start(9)", x.start(9), 1);
        due("count(8)", x.count(8), 9);
        due("secret(0)", x.secret(0), 4);
        due("secret(1)", x.secret(1), 1);
        due("who has tried stays", x.tried(0, 2), 1);
        due("start(0)", x.start(0), 9);
        due("secret(0)", x.secret(0), 0);
        due("an act each", x.count(6), 3);
    }

    private static void dismiss() {
        promise = 12;
        WrongWord x = new WrongWord();
        due("no gate", x.dismiss(0, 0), BAD);
        read(x, FIVE);
        due("dismiss(4, 0)", x.dismiss(4, 0), BAD);
        due("dismiss(-1, 0)", x.dismiss(-1, 0), BAD);
        due("dismiss(0, 2)", x.dismiss(0, 2), BAD);
        due("dismiss(0, -1)", x.dismiss(0, -1), BAD);
        due("there already", x.dismiss(0, 1), STATE);
        due("count(6)", x.count(6), 0);
        due("dismiss(3, 0)", x.dismiss(3, 0), 7);
        due("dismiss(1, 0)", x.dismiss(1, 0), 5);
        due("dismissed already", x.dismiss(1, 0), STATE);
        due("count(5)", x.count(5), 5);
        due("count(6)", x.count(6), 2);
        due("taken(0, 1, 0)", x.taken(0, 1, 0), 0);
        due("dismiss(1, 1)", x.dismiss(1, 1), 7);
        due("taken(0, 1, 0)", x.taken(0, 1, 0), 1);
        due("count(6)", x.count(6), 3);
    }

    private static WrongWord afterActs(int acts) {
        WrongWord x = at(FIVE);
        for (int i = 0; i < acts; i++) {
            switch (i) {
                case 0 -> x.say(1, 0);
                case 1 -> x.dismiss(0, 0);
                case 2 -> x.say(1, 0);
                case 3 -> x.start(7);
                case 4 -> x.say(2, 2);
                case 5 -> x.nights(1);
                case 6 -> x.say(3, 1);
                case 7 -> x.dismiss(0, 1);
                default -> x.nights(1);
            }
        }
        return x;
    }

    private static void undo() {
        promise = 13;
        WrongWord x = new WrongWord();
        due("no gate", x.undo(), STATE);
        read(x, FIVE);
        due("no act", x.undo(), STATE);
        for (int i = 0; i < 9; i++) {
            WrongWord y = afterActs(9);
            for (int left = 8; left >= i; left--) {
                due("undo()", y.undo(), left);
            }
            due("all is as it was ahead of act " + i, seen(y), seen(afterActs(i)));
        }
        x.start(2);
        x.nights(24);
        due("the oldest is forgotten", x.count(6), 24);
        for (int i = 23; i >= 0; i--) {
            due("undo()", x.undo(), i);
        }
        due("undo()", x.undo(), STATE);
        due("NIGHT", x.count(3), 0);
        due("START is not undone", x.count(8), 2);
        x.nights(20);
        x.undo();
        x.nights(5);
        due("count(6)", x.count(6), 24);
        x.undo();
        due("NIGHT", x.count(3), 23);
    }

    private static void letter() {
        promise = 14;
        WrongWord x = new WrongWord();
        due("no gate", x.letter(0, 0), BAD);
        read(x, FIVE);
        due("letter(1, 0)", x.letter(1, 0), 0);
        due("letter(1, 2)", x.letter(1, 2), 3);
        due("letter(3, 1)", x.letter(3, 1), 25);
        due("letter(4, 0)", x.letter(4, 0), 10);
        due("letter(5, 0)", x.letter(5, 0), BAD);
        due("letter(-1, 0)", x.letter(-1, 0), BAD);
        due("letter(0, -1)", x.letter(0, -1), BAD);
        due("letter(0, 3)", x.letter(0, 3), BAD);
    }

    private static void like() {
        promise = 15;
        WrongWord x = new WrongWord();
        due("no gate", x.like(0, 0, 0), BAD);
        read(x, FIVE);
        due("like(0, 1, 0)", x.like(0, 1, 0), 1);
        due("like(4, 1, 0)", x.like(4, 1, 0), 2);
        due("like(2, 4, 0)", x.like(2, 4, 0), 3);
        due("like(2, 4, 1)", x.like(2, 4, 1), 3);
        due("like(1, 4, 1)", x.like(1, 4, 1), 2);
        due("like(3, 4, 1)", x.like(3, 4, 1), 1);
        due("like(3, 3, 0)", x.like(3, 3, 0), 0);
        due("like(3, 3, 1)", x.like(3, 3, 1), 3);
        due("like(5, 0, 0)", x.like(5, 0, 0), BAD);
        due("like(0, 5, 0)", x.like(0, 5, 0), BAD);
        due("like(-1, 0, 0)", x.like(-1, 0, 0), BAD);
        due("like(0, -1, 0)", x.like(0, -1, 0), BAD);
        due("like(0, 0, 2)", x.like(0, 0, 2), BAD);
        due("like(0, 0, -1)", x.like(0, 0, -1), BAD);
    }

    private static void guard() {
        promise = 16;
        WrongWord x = new WrongWord();
        due("no gate", x.guard(0, 0), BAD);
        read(x, FIVE);
        due("FEE", x.guard(3, 0), 9);
        due("TOOK", x.guard(3, 1), 0);
        x.say(2, 3);
        due("TOOK", x.guard(3, 1), 1);
        due("there", x.guard(3, 2), 1);
        x.dismiss(3, 0);
        due("there", x.guard(3, 2), 0);
        due("HOURS, dismissed or not", x.guard(3, 3), 8);
        due("HOURS", x.guard(0, 3), 1 + 16);
        due("HOURS, 5 is the last", x.guard(2, 3), 4);
        x.nights(3);
        due("HOURS", x.guard(3, 3), 1 + 16);
        due("HOURS", x.guard(0, 3), 2 + 32);
        due("guard(4, 0)", x.guard(4, 0), BAD);
        due("guard(-1, 0)", x.guard(-1, 0), BAD);
        due("guard(0, 4)", x.guard(0, 4), BAD);
        due("guard(0, -1)", x.guard(0, -1), BAD);
    }

    private static void tried() {
        promise = 17;
        WrongWord x = new WrongWord();
        due("no gate", x.tried(0, 0), BAD);
        read(x, FIVE);
        due("nobody", x.tried(0, 0), BAD);
        x.say(2, 3);
        x.dismiss(1, 0);
        x.say(1, 5);
        x.dismiss(1, 1);
        x.dismiss(3, 0);
        due("WORD", x.tried(0, 0), 2);
        due("GUARD, though dismissed by now", x.tried(0, 1), 3);
        due("taken", x.tried(0, 2), 1);
        due("WORD", x.tried(1, 0), 1);
        due("GUARD, though there again", x.tried(1, 1), NONE);
        due("taken", x.tried(1, 2), 0);
        due("tried(2, 0)", x.tried(2, 0), BAD);
        due("tried(-1, 0)", x.tried(-1, 0), BAD);
        due("tried(0, 3)", x.tried(0, 3), BAD);
        due("tried(0, -1)", x.tried(0, -1), BAD);
        x.nights(1);
        due("tried(0, 0)", x.tried(0, 0), BAD);
    }

    private static void secret() {
        promise = 18;
        WrongWord x = new WrongWord();
        due("no gate, d BAD", x.secret(-1), STATE);
        read(x, FIVE);
        int[] secrets = {1, 3, 0, 0, 4, 1, 3, 0, 2, 4, 0};
        for (int d = 0; d < secrets.length; d++) {
            due("secret(" + d + ")", x.secret(d), secrets[d]);
        }
        due("secret(60)", x.secret(60), 121 % 5);
        due("secret(59), 59 is 3 by 7", x.secret(59), 0);
        due("secret(61)", x.secret(61), BAD);
        due("secret(-1)", x.secret(-1), BAD);
        x.nights(4);
        due("secret(0)", x.secret(0), 4);
        due("secret(4)", x.secret(4), 2);
        due("nothing changes", x.count(3), 4);
    }

    private static void taken() {
        promise = 19;
        WrongWord x = new WrongWord();
        due("no gate", x.taken(0, 0, 0), BAD);
        read(x, FIVE);
        due("keen", x.taken(1, 0, 0), 1);
        due("sharp", x.taken(0, 1, 0), 1);
        due("night 2 at hour 0: deaf, word 4 for 0", x.taken(4, 0, 2), 1);
        due("night 2 at hour 0: deaf, word 1", x.taken(1, 0, 2), 0);
        due("night 2 at hour 1: sergeant, word 1", x.taken(1, 1, 2), 1);
        due("night 2 at hour 1: sergeant, word 3", x.taken(3, 1, 2), 0);
        due("nobody has tried", x.count(4), 0);
        due("TOOK", x.count(9), 0);
        x.dismiss(3, 0);
        due("guards as they are", x.taken(1, 1, 2), 0);
        due("taken(5, 0, 0)", x.taken(5, 0, 0), BAD);
        due("taken(-1, 0, 0)", x.taken(-1, 0, 0), BAD);
        due("taken(0, 6, 0)", x.taken(0, 6, 0), BAD);
        due("taken(0, -1, 0)", x.taken(0, -1, 0), BAD);
        due("taken(0, 0, 61)", x.taken(0, 0, 61), BAD);
        due("taken(0, 0, -1)", x.taken(0, 0, -1), BAD);
        read(x, THREE);
        due("sleepy, night 2", x.taken(2, 0, 2), 1);
        due("sleepy, night 3", x.taken(0, 1, 3), 0);
        due("keen, night 3", x.taken(0, 0, 3), 1);
        due("taken at d = 60: night 60 has word 0", x.taken(0, 0, 60), 1);
    }

    private static void safe() {
        promise = 20;
        WrongWord x = new WrongWord();
        due("no gate, hour BAD", x.safe(6, 0), STATE);
        read(x, FIVE);
        due("keen", x.safe(0, 0), 31 - 2);
        due("sharp", x.safe(1, 0), 31 - 2 - 1);
        due("deaf", x.safe(2, 0), 31 - 2);
        due("sergeant", x.safe(3, 0), 8);
        due("night 2, deaf", x.safe(4, 2), 31 - 1 - 4 - 16);
        x.dismiss(3, 0);
        due("dismissed", x.safe(3, 0), 31);
        due("safe(6, 0)", x.safe(6, 0), BAD);
        due("safe(-1, 0)", x.safe(-1, 0), BAD);
        due("safe(0, 61)", x.safe(0, 61), BAD);
        due("safe(0, -1)", x.safe(0, -1), BAD);
    }

    private static void open() {
        promise = 21;
        WrongWord x = new WrongWord();
        due("no gate, words BAD", x.open(-1, 0), STATE);
        read(x, FIVE);
        due("none", x.open(0, 0), 63);
        due("word 0", x.open(1, 0), 1 + 4 + 16);
        due("word 1", x.open(2, 0), 0);
        due("word 3", x.open(8, 0), 63);
        due("words 2, 3", x.open(12, 0), 63 - 8);
        due("word 3 in one night, it is the secret", x.open(8, 1), 0);
        x.dismiss(1, 0);
        due("word 1, the sharp one dismissed", x.open(2, 0), 2 + 32);
        due("open(32, 0)", x.open(32, 0), BAD);
        due("open(-1, 0)", x.open(-1, 0), BAD);
        due("open(MIN, 0)", x.open(MIN, 0), BAD);
        due("open(0, 61)", x.open(0, 61), BAD);
        due("open(0, -1)", x.open(0, -1), BAD);
        due("night 60 has the keen one at hours 0, 4, the sharp one dismissed at 1, 5", x.open(31, 60), 2 + 32);
    }

    private static void next() {
        promise = 22;
        WrongWord x = new WrongWord();
        due("no gate", x.next(0), BAD);
        read(x, FIVE);
        int[] first = {2, 0, 8, 1, 4};
        for (int w = 0; w < 5; w++) {
            due("next(" + w + ")", x.next(w), first[w]);
        }
        due("next(5)", x.next(5), BAD);
        due("next(-1)", x.next(-1), BAD);
        x.nights(2);
        due("next(1)", x.next(1), 3);
        due("nothing changes", x.count(3), 2);
        read(x, "q1,0,6;waaa;wbbb;wccc;k1;");
        due("only by shrove", x.next(0), 6);
        due("never", x.next(2), NONE);
    }

    private static void agree() {
        promise = 23;
        WrongWord x = new WrongWord();
        due("no gate", x.agree(), STATE);
        read(x, FIVE);
        due("nobody has tried", x.agree(), 31);
        x.say(0, 0);
        due("not taken by the keen one", x.agree(), 30);
        x.say(2, 3);
        due("taken by the sergeant: 0, 1, 2, 4", x.agree(), 2 + 4 + 16);
        x.dismiss(3, 0);
        due("by the guards who were on", x.agree(), 22);
        x.say(1, 3);
        due("who is dismissed tells nothing", x.agree(), 22);
        x.say(0, 1);
        due("taken by the sharp one: 0, 1, 4", x.agree(), 2 + 16);
        x.start(3);
        due("still", x.agree(), 18);
        x.say(0, 5);
        due("the secret is another now: none agrees", x.agree(), 0);
        x.nights(1);
        due("TONIGHT", x.agree(), 31);
        read(x, THREE);
        x.nights(1);
        x.say(1, 1);
        due("a sleepy one on an odd night", x.agree(), 7);
    }

    private static void man() {
        promise = 24;
        WrongWord x = new WrongWord();
        due("no gate, what BAD", x.man(3), STATE);
        read(x, FIVE);
        // Word 0 at hour 1, the sharp one: 0, 1, 4 against 2, 3. The deaf one makes it 3 to 2 too, but later.
        due("which", x.man(0), 0);
        due("HOUR", x.man(1), 1);
        due("how many", x.man(2), 3);
        due("man(3)", x.man(3), BAD);
        due("man(-1)", x.man(-1), BAD);
        x.say(0, 1);
        due("agree()", x.agree(), 1 + 2 + 16);
        // Of 0, 1, 4 any that splits leaves two; word 0 at hour 0 does so.
        due("which", x.man(0), 0);
        due("HOUR", x.man(1), 0);
        due("how many", x.man(2), 2);
        x.dismiss(0, 0);
        // At hour 0 nobody is taken; the sharp one takes 0 for 0, 1, 4: all three; the deaf one takes it for 0, 4.
        due("HOUR", x.man(1), 2);
        due("nothing changes", x.count(4), 1);
        x.dismiss(0, 1);
        x.say(0, 0);
        // Of 1, 4 the deaf one tells at hour 2 by word 0.
        due("agree()", x.agree(), 2 + 16);
        due("which", x.man(0), 0);
        due("HOUR", x.man(1), 2);
        due("how many", x.man(2), 1);
        x.start(3);
        x.say(0, 1);
        due("agree()", x.agree(), 0);
        due("none agrees", x.man(0) + x.man(1) + x.man(2), 0);
        laterWord();
    }

    private static void laterWord() {
        // One sharp guard; 1 and 2 are one letter off each other, 0 off all: word 1 splits the four in two, word 0 does not.
        WrongWord x = at("q0,0,6;wzzz;waab;waac;wyyy;s1;");
        due("which", x.man(0), 1);
        due("HOUR", x.man(1), 0);
        due("how many", x.man(2), 2);
        x.dismiss(0, 0);
        due("nobody tells", x.man(2), 4);
        due("which", x.man(0), 0);
        read(x, "q0,0,6;wzzz;wyyy;wxxx;waab;waac;waad;k1;k1;k1;s1;");
        due("which", x.man(0), 3);
        due("HOUR", x.man(1), 3);
        due("how many", x.man(2), 3);
    }

    private static void fewest() {
        promise = 25;
        WrongWord x = new WrongWord();
        due("no gate", x.fewest(), STATE);
        read(x, FIVE);
        due("five words", x.fewest(), 3);
        x.say(1, 0);
        due("one agrees", x.fewest(), 0);
        read(x, SIX);
        due("one keen guard: word by word", x.fewest(), 5);
        x.say(4, 0);
        due("one less", x.fewest(), 4);
        due("nothing changes", x.count(4), 1);
        x.dismiss(0, 0);
        due("by none", x.fewest(), NONE);
        read(x, "q0,0,0;waaa;k0;");
        due("one word", x.fewest(), 0);
        read(x, "q0,0,0;waaa;wfff;wbbb;d0;");
        due("two alike to the deaf", x.fewest(), NONE);
        read(x, "q0,0,0;waaa;wfff;d1;d1;k1;");
        due("by the keen one at hour 2", x.fewest(), 1);
        read(x, "q0,0,6;waaa;wbbb;e1;");
        due("sleepy, even night", x.fewest(), 1);
        x.nights(1);
        due("sleepy, odd night", x.fewest(), NONE);
        read(x, "q0,0,0;waaa;wbbb;k1;");
        x.say(0, 0);
        x.start(1);
        x.nights(1);
        x.say(0, 0);
        x.undo();
        x.say(0, 0);
        x.start(0);
        x.say(0, 0);
        due("agree()", x.agree(), 0);
        due("none agrees", x.fewest(), 0);
        // Four words in two pairs, a sharp one: by 0 or 1 the pair, by no word one of a pair alone.
        read(x, "q0,0,6;waaa;waab;wzzz;wzzy;s1;");
        due("the pairs stay", x.fewest(), NONE);
        read(x, "q0,0,6;waaa;waab;wzzz;wzzy;s1;k1;");
        due("two men", x.fewest(), 2);
    }

    private static void march() {
        promise = 26;
        WrongWord x = new WrongWord();
        due("no gate ahead of BAD", x.march(8, 0, 0, 9), STATE);
        read(x, FIVE);
        // Word 0 gets IN at hours 0, 2, 4; 3 at all; 2 at all but 3; 1 at none.
        fill(x, 0, 0, 0, 0, 0, 3, 2, 1, 7, -1);
        due("0 0 0", x.march(0, 0, 3, -1), 4);
        due("0 0 0", x.march(0, 0, 3, 0), 0);
        due("0 0 0", x.march(0, 0, 3, 1), 2);
        due("0 0 0", x.march(0, 0, 3, 2), 4);
        due("0 0 3", x.march(0, 1, 3, -1), 3);
        due("0 3 2", x.march(0, 2, 3, -1), 2);
        due("0 0 0 3 2: no hour is left", x.march(0, 0, 5, -1), NONE);
        due("3 is the last who gets IN", x.march(0, 0, 5, 3), 5);
        due("1 never", x.march(0, 5, 1, -1), NONE);
        due("7 is no word", x.march(0, 6, 1, 0), NONE);
        due("-1 is no word", x.march(0, 7, 1, 0), NONE);
        due("status()", x.status(), 0);
        due("NULL", x.march(1, -1, 1, -1), NULL);
        due("PLACE", x.march(0, 4, 5, -1), PLACE);
        due("PLACE", x.march(0, -1, 1, -1), PLACE);
        due("PLACE", x.march(0, MAX, 6, -1), PLACE);
        due("status()", x.status(), 2);
        due("march(8, 0, 1, -1)", x.march(8, 0, 1, -1), BAD);
        due("march(-1, 0, 1, -1)", x.march(-1, 0, 1, -1), BAD);
        due("march(0, 0, 0, -1)", x.march(0, 0, 0, -1), BAD);
        due("march(0, 0, 7, -1)", x.march(0, 0, 7, -1), BAD);
        due("march(0, 0, 3, 3)", x.march(0, 0, 3, 3), BAD);
        due("march(0, 0, 3, -2)", x.march(0, 0, 3, -2), BAD);
        due("status()", x.status(), 2);
        x.dismiss(1, 0);
        fill(x, 1, 2, 1, 1, 1);
        due("1 gets IN by the dismissed one at 1 and 5", x.march(1, 0, 2, -1), 5);
        due("not a third time", x.march(1, 0, 3, 2), NONE);
        due("nobody has tried", x.count(4), 0);
        fill(x, 2, 1, 3, 3, 3, 3, 3, 3);
        due("six men", x.march(2, 0, 6, -1), 5);
    }

    private static void cheap() {
        promise = 27;
        WrongWord x = new WrongWord();
        due("no gate ahead of BAD", x.cheap(-1, 0, 2), STATE);
        read(x, FIVE);
        due("no words", x.cheap(0, 0, 0), 0);
        due("no words", x.cheap(0, 0, 1), 0);
        due("word 0: sharp, sergeant", x.cheap(1, 0, 1), 2 + 8);
        due("word 0", x.cheap(1, 0, 0), 14);
        due("word 2: sergeant", x.cheap(4, 0, 0), 9);
        due("word 3: none", x.cheap(8, 0, 1), 0);
        due("words 0, 2, 3", x.cheap(13, 0, 1), 10);
        due("word 1: all", x.cheap(2, 0, 0), 19);
        due("word 4 in two nights, secret 0: sharp, deaf, sergeant", x.cheap(16, 2, 1), 14);
        x.dismiss(3, 0);
        due("dismissed ones are never among them", x.cheap(1, 0, 1), 2);
        due("dismissed ones cost nothing", x.cheap(1, 0, 0), 5);
        due("nothing changes", x.count(5), 7);
        due("cheap(32, 0, 0)", x.cheap(32, 0, 0), BAD);
        due("cheap(-1, 0, 0)", x.cheap(-1, 0, 0), BAD);
        due("cheap(0, 61, 0)", x.cheap(0, 61, 0), BAD);
        due("cheap(0, -1, 0)", x.cheap(0, -1, 0), BAD);
        due("cheap(0, 0, 2)", x.cheap(0, 0, 2), BAD);
        due("cheap(0, 0, -1)", x.cheap(0, 0, -1), BAD);
        read(x, "q0,1,6;waaa;waab;wbcd;e0;k0;");
        due("who costs nothing stays, if he takes nobody", x.cheap(2, 0, 1), 0);
        due("an odd night: the sleepy one stays", x.cheap(2, 1, 1), 2);
        due("an even night", x.cheap(4, 2, 1), 3);
        due("both cost nothing", x.cheap(4, 2, 0), 0);
    }

    private static void near() {
        promise = 28;
        WrongWord x = new WrongWord();
        due("no gate", x.near(0, 0), BAD);
        read(x, FIVE);
        due("0: 1, ahead of 4", x.near(0, 0), 1);
        due("far", x.near(0, 1), 1);
        due("4: 0", x.near(4, 0), 0);
        due("3: all are far", x.near(3, 0), 0);
        due("far", x.near(3, 1), 3);
        due("near(5, 0)", x.near(5, 0), BAD);
        due("near(-1, 0)", x.near(-1, 0), BAD);
        due("near(0, 2)", x.near(0, 2), BAD);
        due("near(0, -1)", x.near(0, -1), BAD);
        read(x, "q0,0,0;waaa;wbba;wcaa;wbbc;k0;");
        due("a later one that is nearer", x.near(0, 0), 2);
        due("0: how far", x.near(0, 1), 1);
        due("2: 0", x.near(2, 0), 0);
        due("3: 1", x.near(3, 0), 1);
        read(x, "q0,0,0;waaa;k0;");
        due("no other one", x.near(0, 0), NONE);
        due("no other one", x.near(0, 1), NONE);
    }

    private static void rules() {
        promise = 29;
        WrongWord x = new WrongWord();
        due("no gate ahead of BAD", x.rules(8, 0, 0, 3), STATE);
        read(x, FIVE);
        fill(x, 0, 0, 1, 3, 0, 0, 4, 1, 3, 0, 2, 4, 0, 3, 0, 2, 4, 1, 3, 1);
        // 1 and 6 leave the same over by 5; so do 2 and 7.
        due("STARTS", x.rules(0, 0, 16, 0), 2 + 64);
        due("STEPS", x.rules(0, 0, 16, 1), 4 + 128);
        due("SHROVES", x.rules(0, 0, 16, 2), 8);
        due("one night, STEPS: any", x.rules(0, 0, 1, 1), 1023);
        due("one night, SHROVES: any but 0", x.rules(0, 0, 1, 2), 126);
        due("one night, STARTS", x.rules(0, 0, 1, 0), 66);
        due("three nights, SHROVES: 2 makes the third night 0, as it is", x.rules(0, 0, 3, 2), 4 + 8 + 16 + 32 + 64);
        due("3 0 on nights 0, 1", x.rules(0, 1, 2, 0), 8 + 256);
        due("STEPS: START is 1, so never 3 on night 0", x.rules(0, 1, 2, 1), 0);
        due("SHROVES", x.rules(0, 1, 2, 2), 0);
        due("0 on night 0: SHROVES", x.rules(0, 2, 1, 2), 1);
        due("0 on night 0: STARTS", x.rules(0, 2, 1, 0), 1 + 32);
        x.nights(1);
        due("from this night on", x.rules(0, 1, 15, 1), 4 + 128);
        due("from this night on", x.rules(0, 0, 15, 1), 0);
        x.start(3);
        fill(x, 1, 2, 0, 2, 0);
        due("START as it is: 3 and 2 on night 1", x.rules(1, 0, 3, 1), 4 + 128);
        due("STARTS", x.rules(1, 0, 3, 0), 8 + 256);
        due("status()", x.status(), 0);
        fill(x, 1, 2, 5, -1);
        due("no word is never the secret", x.rules(1, 0, 1, 0) + x.rules(1, 1, 1, 0), 0);
        due("NULL", x.rules(2, -1, 1, 0), NULL);
        due("PLACE", x.rules(1, 1, 2, 0), PLACE);
        due("PLACE", x.rules(1, -1, 1, 0), PLACE);
        due("PLACE", x.rules(1, MAX, 16, 0), PLACE);
        due("status()", x.status(), 2);
        due("rules(8, 0, 1, 0)", x.rules(8, 0, 1, 0), BAD);
        due("rules(-1, 0, 1, 0)", x.rules(-1, 0, 1, 0), BAD);
        due("rules(0, 0, 0, 0)", x.rules(0, 0, 0, 0), BAD);
        due("rules(0, 0, 17, 0)", x.rules(0, 0, 17, 0), BAD);
        due("rules(0, 0, 1, 3)", x.rules(0, 0, 1, 3), BAD);
        due("rules(0, 0, 1, -1)", x.rules(0, 0, 1, -1), BAD);
        due("nothing changes", x.count(8), 3);
    }

    private static void fits() {
        promise = 30;
        WrongWord x = new WrongWord();
        x.row(0, 0, 5);
        due("no gate", x.fits(0, 0, 0, 0), BAD);
        read(x, FIVE);
        // The secret is 1, abd.
        fill(x, 0, 0, 0, 1, 0, 0, 0, 1, 1, 0, 0, 0, 1, 1, 1, 0, 1, 1, 0, 1, 0, 1);
        due("word 1 alone: keen, sleepy, deaf", x.fits(0, 0, 0, 0), 2 + 8 + 16);
        due("0, 1: sharp", x.fits(3, 0, 5, 0), 4);
        due("0, 1, 2, 4: sergeant", x.fits(0, 0, 10, 0), 32);
        due("SECRETS by a keen one", x.fits(0, 0, 0, 1), 2);
        due("SECRETS by a keen one", x.fits(0, 0, 5, 1), 0);
        due("SECRETS by a sharp one, 0 1 alone: 1", x.fits(1, 0, 5, 1), 2);
        due("SECRETS by a sergeant", x.fits(3, 0, 10, 1), 1 + 2 + 4 + 16);
        due("SECRETS by a deaf one, 0 2 4", x.fits(2, 0, 15, 1), 1 + 4 + 16);
        x.dismiss(3, 0);
        due("were he there", x.fits(3, 0, 10, 1), 23);
        due("status()", x.status(), 0);
        due("PLACE", x.fits(0, 0, 16, 0), PLACE);
        due("PLACE", x.fits(0, 0, -1, 0), PLACE);
        due("PLACE", x.fits(0, 0, MAX, 0), PLACE);
        due("NULL", x.fits(0, 1, -1, 0), NULL);
        due("status()", x.status(), 1);
        due("fits(4, 0, 0, 0)", x.fits(4, 0, 0, 0), BAD);
        due("fits(-1, 0, 0, 0)", x.fits(-1, 0, 0, 0), BAD);
        due("fits(0, 8, 0, 0)", x.fits(0, 8, 0, 0), BAD);
        due("fits(0, -1, 0, 0)", x.fits(0, -1, 0, 0), BAD);
        due("fits(0, 0, 0, 2)", x.fits(0, 0, 0, 2), BAD);
        due("fits(0, 0, 0, -1)", x.fits(0, 0, 0, -1), BAD);
        due("status()", x.status(), 1);
        fill(x, 1, 2, 0, 2, 0, 0, 0, 0, 257, 0, 0, 0);
        due("an item that is neither 1 nor 0", x.fits(0, 1, 0, 0) + x.fits(0, 1, 5, 1), 0);
        read(x, THREE);
        x.nights(1);
        fill(x, 2, 1, 0, 0, 0);
        due("none on an odd night: sleepy", x.fits(1, 2, 0, 0), 8);
        due("none on an odd night: any secret by a sleepy one", x.fits(0, 2, 0, 1), 7);
        due("none: no secret by a keen one", x.fits(1, 2, 0, 1), 0);
    }

    private static void sure() {
        promise = 31;
        WrongWord x = new WrongWord();
        due("no gate", x.sure(0, 0, 0, 0), BAD);
        read(x, FIVE);
        due("4 of 5, and 3 tenths of 1 of 5", x.sure(0, 0, 3, 0), 43);
        due("below", x.sure(0, 0, 3, 1), 50);
        due("sharp, word 0: 2 of 5", x.sure(0, 1, 0, 0), 2);
        due("below", x.sure(0, 1, 0, 1), 5);
        due("he nods always", x.sure(0, 1, 10, 0), 1);
        due("below", x.sure(0, 1, 10, 1), 1);
        due("deaf, word 0: 2 of 5 and half of 3 of 5", x.sure(0, 2, 5, 0), 7);
        due("below", x.sure(0, 2, 5, 1), 10);
        x.say(1, 0);
        due("1 agrees", x.agree(), 2);
        due("surely taken", x.sure(1, 0, 0, 0), 0);
        due("0 by 1", x.sure(1, 0, 0, 1), 1);
        due("nods by 4", x.sure(1, 4, 4, 0), 2);
        due("below", x.sure(1, 4, 4, 1), 5);
        x.dismiss(0, 0);
        due("dismissed", x.sure(1, 0, 0, 0), 1);
        due("below", x.sure(1, 0, 0, 1), 1);
        x.start(3);
        x.say(1, 1);
        due("none agrees", x.agree(), 0);
        due("0 by 1", x.sure(1, 0, 10, 0), 0);
        due("0 by 1", x.sure(1, 0, 10, 1), 1);
        due("sure(5, 0, 0, 0)", x.sure(5, 0, 0, 0), BAD);
        due("sure(-1, 0, 0, 0)", x.sure(-1, 0, 0, 0), BAD);
        due("sure(0, 6, 0, 0)", x.sure(0, 6, 0, 0), BAD);
        due("sure(0, -1, 0, 0)", x.sure(0, -1, 0, 0), BAD);
        due("sure(0, 0, 11, 0)", x.sure(0, 0, 11, 0), BAD);
        due("sure(0, 0, -1, 0)", x.sure(0, 0, -1, 0), BAD);
        due("sure(0, 0, 0, 2)", x.sure(0, 0, 0, 2), BAD);
        due("sure(0, 0, 0, -1)", x.sure(0, 0, 0, -1), BAD);
    }

    private static void drawn() {
        promise = 32;
        WrongWord x = new WrongWord();
        due("no gate ahead of BAD", x.drawn(-1, 0, 2), STATE);
        read(x, FIVE);
        due("no nights", x.drawn(0, 1, 0), 0);
        due("no nights", x.drawn(0, 1, 1), 0);
        // X is 16807: word 2 at hour 1, the sharp one, secret 1: IN.
        due("one night", x.drawn(1, 1, 0), 0);
        due("one night", x.drawn(1, 1, 1), 4);
        // X is 282475249: word 4 at hour 1 of night 1, the deaf one, secret 3: IN.
        due("two nights", x.drawn(2, 1, 1), 4 + 16);
        due("shared test", x.drawn(20, 7, 0), 9);
        due("shared test", x.drawn(60, 9, 0), 24);
        due("shared test", x.drawn(60, 9, 1), 31);
        due("nothing changes", x.count(3) + x.count(4) + x.count(9), 0);
        x.nights(2);
        // X is 16807: word 2 at hour 1 of night 2, the sergeant, secret 0: taken.
        due("from this night on", x.drawn(1, 1, 0), 1);
        due("from this night on", x.drawn(1, 1, 1), 0);
        x.dismiss(3, 0);
        due("guards as they are", x.drawn(1, 1, 1), 4);
        due("drawn(61, 1, 0)", x.drawn(61, 1, 0), BAD);
        due("drawn(-1, 1, 0)", x.drawn(-1, 1, 0), BAD);
        due("drawn(1, 0, 0)", x.drawn(1, 0, 0), BAD);
        due("drawn(1, 1000000, 0)", x.drawn(1, 1000000, 0), BAD);
        due("drawn(1, 1, 2)", x.drawn(1, 1, 2), BAD);
        due("drawn(1, 1, -1)", x.drawn(1, 1, -1), BAD);
        // X is 1774597664: word 4 at hour 2 of night 2, the keen one, secret 0: IN.
        due("the last seed", x.drawn(1, 999999, 1), 16);
    }

    private static void images() {
        promise = 33;
        WrongWord x = new WrongWord();
        due("BAD ahead of no gate", x.image(2), BAD);
        due("BAD ahead of no gate", x.image(-1), BAD);
        due("no gate", x.image(0), STATE);
        read(x, FIVE);
        x.say(1, 0);
        x.nights(1);
        x.start(4);
        x.say(3, 2);
        x.dismiss(3, 0);
        long first = seen(x);
        int acts = x.count(6);
        due("image(0)", x.image(0), 1);
        due("acts", x.count(6), acts);
        x.undo();
        due("what is undone leaves it alone", x.image(1), 1);
        long second = seen(x);
        read(x, THREE);
        promise = 34;
        due("restore(2)", x.restore(2), BAD);
        due("restore(-1)", x.restore(-1), BAD);
        due("restore(0)", x.restore(0), 1);
        due("no act can be undone", x.undo(), STATE);
        due("count(6)", x.count(6), 0);
        due("count(1)", x.count(1), 5);
        due("count(5)", x.count(5), 7);
        due("count(4)", x.count(4), 1);
        due("agree()", x.agree(), x.secret(0) == 3 ? 8 : 31 - 8);
        x.nights(1);
        x.say(0, 0);
        due("restore(1)", x.restore(1), 1);
        due("as it was kept, but for acts", seen(x), second - powers(acts - 1));
        due("restore(0) again", x.restore(0), 1);
        due("as it was kept, but for acts", seen(x), first - powers(acts));
        x.row(0, 0, 3);
        x.feed(97);
        x.restore(1);
        due("rows and tape are no part of it", x.count(0) * 10 + x.count(7), 11);
        WrongWord y = at(THREE);
        y.image(0);
        due("the other one was not kept", y.restore(1), STATE);
        due("what is refused changes nothing", y.count(1), 3);
        y.nights(2);
        y.image(0);
        y.nights(2);
        y.restore(0);
        due("an image in place of one", y.count(3), 2);
    }

    /** What so many acts add to seen(). */
    private static long powers(int acts) {
        long all = acts;
        for (int i = 0; i < 3 + 27 + 4 + 6; i++) {
            all *= 31;
        }
        return all;
    }

    private static void kind() {
        promise = 35;
        WrongWord x = new WrongWord();
        due("no gate", x.kind(0), BAD);
        read(x, FIVE);
        due("k", x.kind(0), 1);
        due("s", x.kind(1), 2);
        due("d", x.kind(2), 4);
        due("g", x.kind(3), 5);
        due("kind(4)", x.kind(4), BAD);
        due("kind(-1)", x.kind(-1), BAD);
        read(x, THREE);
        due("e", x.kind(0), 3);
        x.dismiss(0, 0);
        due("dismissed", x.kind(0), 3);
        due("kind(2)", x.kind(2), BAD);
    }

    private static void as() {
        promise = 36;
        WrongWord x = new WrongWord();
        due("no gate", x.as(0, 0), BAD);
        read(x, "q1,2,3;wabc;wabd;k3;s5;d2;g9;");
        int[] is = {0b000011, 0b000111, 0b010001, 0b110001};
        for (int guard = 0; guard < 4; guard++) {
            for (int kind = 0; kind < 6; kind++) {
                boolean so = (is[guard] >> kind & 1) == 1;
                due("as(" + guard + ", " + kind + ")", x.as(guard, kind), so ? guard : KIND);
                due("status()", x.status(), so ? 0 : 3);
            }
        }
        x.as(0, 5);
        due("as(4, 0)", x.as(4, 0), BAD);
        due("as(-1, 0)", x.as(-1, 0), BAD);
        due("as(0, 6)", x.as(0, 6), BAD);
        due("as(0, -1)", x.as(0, -1), BAD);
        due("status()", x.status(), 3);
        read(x, THREE);
        for (int kind = 0; kind < 6; kind++) {
            due("a sleepy one as " + kind, x.as(0, kind), kind == 0 || kind == 1 || kind == 3 ? 0 : KIND);
        }
    }

    private static void asked(WrongWord x, int guard, int what, int want, int... bodies) {
        due("ask(" + guard + ", " + what + ")", x.ask(guard, what), want);
        for (int i = 0; i < bodies.length; i++) {
            due("trace(" + i + ")", x.trace(i), bodies[i]);
        }
        due("trace(" + bodies.length + ")", x.trace(bodies.length), NONE);
    }

    private static void ask() {
        promise = 37;
        WrongWord x = new WrongWord();
        due("no gate", x.ask(0, 0), BAD);
        read(x, FIVE);
        x.say(1, 0);
        x.say(1, 0);
        x.say(0, 1);
        x.say(1, 5);
        asked(x, 0, 0, 3 + (0 + 2), 11, 10, 21, 20);
        asked(x, 0, 1, 0 + 2, 21, 20);
        asked(x, 1, 0, -(5 + 2 * (1 + 2)), 12, 11, 10, 24, 21, 20);
        asked(x, 1, 1, 2 * (1 + 2), 24, 21, 20);
        asked(x, 2, 0, 2 - 100, 13, 10);
        asked(x, 2, 1, 2 - (2 - 100), 23, 20, 13, 10);
        asked(x, 3, 0, 2 * (9 - 100), 14, 13, 10);
        asked(x, 3, 1, 3 - 2 * (9 - 100), 23, 20, 14, 13, 10);
        due("ask(4, 0)", x.ask(4, 0), BAD);
        due("ask(-1, 0)", x.ask(-1, 0), BAD);
        due("ask(0, 2)", x.ask(0, 2), BAD);
        due("ask(0, -1)", x.ask(0, -1), BAD);
        due("what is refused leaves the trace", x.trace(4), 10);
        due("status()", x.status(), 0);
        read(x, "q0,0,6;waaa;k1;e4;");
        x.say(0, 1);
        asked(x, 1, 0, 4 + (1 + 1 - 1000), 11, 10, 22, 21, 20);
        asked(x, 1, 1, 1 + 1 - 1000, 22, 21, 20);
        x.dismiss(1, 0);
        asked(x, 1, 1, 1 + 1 - 1000, 22, 21, 20);
    }

    private static void trace() {
        promise = 38;
        WrongWord x = at(FIVE);
        due("none yet", x.trace(0), NONE);
        x.ask(1, 0);
        due("trace(0)", x.trace(0), 12);
        due("trace(5)", x.trace(5), 20);
        due("trace(6)", x.trace(6), NONE);
        due("trace(15)", x.trace(15), NONE);
        due("trace(16)", x.trace(16), NONE);
        due("trace(-1)", x.trace(-1), NONE);
        due("trace(MAX)", x.trace(MAX), NONE);
        due("trace(MIN)", x.trace(MIN), NONE);
        read(x, THREE);
        due("it stays", x.trace(0), 12);
        x.ask(1, 1);
        due("it is empty ahead of an ask", x.trace(2), NONE);
    }

    private static void count() {
        promise = 39;
        WrongWord x = at(FIVE);
        x.row(0, 0, 1);
        x.row(5, 1, 0);
        x.nights(1);
        x.say(3, 0);
        x.say(3, 1);
        x.say(3, 3);
        x.start(8);
        x.dismiss(0, 0);
        x.feed(113);
        x.feed(113);
        x.feed(113);
        int[] want = {2, 5, 4, 1, 3, 14, 6, 3, 8, 3};
        for (int what = 0; what < 10; what++) {
            due("count(" + what + ")", x.count(what), want[what]);
        }
        due("count(10)", x.count(10), BAD);
        due("count(-1)", x.count(-1), BAD);
        x.nights(1);
        due("tries of TONIGHT", x.count(4), 0);
        due("all that GUARDS TOOK", x.count(9), 3);
    }

    private static void status() {
        promise = 40;
        WrongWord x = new WrongWord();
        due("there was none", x.status(), 0);
        x.row(0, 0, -1);
        due("SIZE", x.status(), 4);
        x.fits(0, 1, 0, 0);
        x.march(0, 0, 1, -1);
        x.rules(0, 0, 1, 0);
        x.as(0, 0);
        due("BAD and STATE leave it", x.status(), 4);
        read(x, FIVE);
        x.feed(300);
        x.say(0, 0);
        x.kind(0);
        x.ask(0, 0);
        x.count(0);
        x.undo();
        x.image(0);
        due("calls without a row leave it", x.status(), 4);
        x.row(0, 0, 8);
        due("row", x.status(), 0);
        x.set(1, 0, 0);
        due("set", x.status(), 1);
        x.set(0, 0, 0);
        due("set", x.status(), 0);
        x.drop(1);
        x.copy(0, 0, 0, 0, 1);
        due("copy", x.status(), 0);
        x.march(0, 8, 1, -1);
        due("march", x.status(), 2);
        x.march(0, 0, 1, -1);
        due("march", x.status(), 0);
        x.rules(0, 8, 1, 0);
        due("rules", x.status(), 2);
        x.rules(0, 0, 1, 0);
        due("rules", x.status(), 0);
        x.fits(0, 0, 4, 0);
        due("fits", x.status(), 2);
        x.fits(0, 0, 3, 0);
        due("fits", x.status(), 0);
        x.as(0, 2);
        due("as", x.status(), 3);
        x.drop(0);
        due("drop", x.status(), 0);
        x.as(0, 2);
        x.as(0, 1);
        due("as", x.status(), 0);
        x.row(0, 0, 3);
        x.row(1, 1, 3);
        x.copy(0, 0, 1, 0, 0);
        due("copy", x.status(), 5);
        x.set(1, 0, 9);
        x.march(1, 0, 1, -1);
        due("NONE is no finding", x.status(), 0);
    }

    public static void main(String[] args) {
        newObject();
        row();
        set();
        copy();
        drop();
        feed();
        gate();
        fault();
        nights();
        say();
        start();
        dismiss();
        undo();
        letter();
        like();
        guard();
        tried();
        secret();
        taken();
        safe();
        open();
        next();
        agree();
        man();
        fewest();
        march();
        cheap();
        near();
        rules();
        fits();
        sure();
        drawn();
        images();
        kind();
        as();
        ask();
        trace();
        count();
        status();
        System.out.println(wrong == 0 ? "all answers are as due" : wrong + " answers are not as due");
        if (wrong != 0) {
            System.exit(1);
        }
    }
}
