/** The edges of promises 2 to 5, and of the terms that they lean on. In BUSY row 0 has bytes 1 2 3, row 2 shorts 4 5, row 7 ints. */
final class RowEdges extends Edges {
    private static final int[] LANES = {0, 1, 2};

    private RowEdges() {
    }

    static void run() {
        atFirst();
        rowIsMade();
        rowIsReplaced();
        rowIsRefused();
        itemsAreCut();
        setIsRefused();
        itemsAreCopied();
        copyIsRefused();
        copyPlaces();
        rowIsDropped();
    }

    private static void atFirst() {
        terms("1 ROWS 0 .. 7 are missing (at first), or have a LANE (0 bytes, 1 shorts, 2 ints) and 0 to 40 ITEMS, 0 at first.");
        for (int row = 0; row < 8; row++) {
            refused(NEW, NULL, "drop(" + row + ")", "set(" + row + ", 0, 0)", "copy(" + row + ", 0, " + row + ", 0, 0)");
        }
        refused(NEW, BAD, "drop(8)", "drop(-1)");
        for (int lane : LANES) {
            Calls x = after("read " + SIX).due("row(3, " + lane + ", 40)", 40);
            for (int i = 0; i < 40; i++) {
                // By START 0, and 6, the secret is 0.
                x.due("rules(3, " + i + ", 1, 0)", 1 + 64);
            }
        }
    }

    private static void rowIsMade() {
        promise(2, "A ROW of a LANE with n ITEMS");
        int[] cut = {112, 4464, 70000};
        for (int lane : LANES) {
            for (int row : new int[] {0, 7}) {
                Calls x = after().due("row(" + row + ", " + lane + ", 40)", 40).due("count(0)", 1);
                x.due("set(" + row + ", 0, 70000)", cut[lane]).due("set(" + row + ", 39, 70000)", cut[lane]);
                x.due("set(" + row + ", 40, 70000)", PLACE).due("drop(" + row + ")", 40);
                Calls y = after().due("row(" + row + ", " + lane + ", 0)", 0).due("count(0)", 1);
                y.due("set(" + row + ", 0, 1)", PLACE).due("drop(" + row + ")", 0).due("count(0)", 0);
                Calls z = after().due("row(" + row + ", " + lane + ", 1)", 1).due("set(" + row + ", 0, 1)", 1);
                z.due("set(" + row + ", 1, 1)", PLACE).due("drop(" + row + ")", 1);
            }
        }
        Calls all = after();
        for (int row = 0; row < 8; row++) {
            all.due("row(" + row + ", 2, 40)", 40).due("count(0)", row + 1);
        }
    }

    private static void rowIsReplaced() {
        promise(2, "in place of what is there: n.");
        Calls x = after("read " + SIX, "fill 1 2 3 4 5").due("rules(1, 2, 1, 0)", 32);
        x.due("row(1, 0, 2)", 2).due("count(0)", 1).due("rules(1, 0, 1, 0)", 65).due("rules(1, 1, 1, 0)", 65);
        x.due("rules(1, 2, 1, 0)", PLACE).due("set(1, 0, 300)", 44);
        x.due("row(1, 1, 3)", 3).due("rules(1, 0, 1, 0)", 65).due("rules(1, 2, 1, 0)", 65).due("set(1, 0, 300)", 300);
        x.due("row(1, 1, 3)", 3).due("rules(1, 0, 1, 0)", 65);
        x.due("row(1, 1, 0)", 0).due("rules(1, 0, 1, 0)", PLACE).due("count(0)", 1);
        x.then("row(1, 1, 40)", "set(1, 39, 5)").due("rules(1, 39, 1, 0)", 32).due("row(1, 1, 40)", 40).due("rules(1, 39, 1, 0)", 65);
    }

    private static void rowIsRefused() {
        promise(2, "BAD: ROW, LANE, n above 40");
        bounds(BUSY, "row(#, 1, 3)", 0, 7);
        bounds(BUSY, "row(0, #, 3)", 0, 2);
        refused(BUSY, BAD, "row(0, 1, 41)", "row(0, 1, MAX)", "row(1, 2, 41)");
        after(BUSY).due("row(0, 1, 40)", 40).due("status()", 0);
        refused(BUSY, BAD, "row(8, 0, -1)", "row(-1, 0, -1)", "row(0, 3, -1)", "row(0, -1, MIN)");
        promise(2, "SIZE");
        refused(BUSY, SIZE, "row(0, 1, -1)", "row(0, 1, MIN)", "row(1, 2, -1)", "row(7, 0, -40)");
        refused(NEW, SIZE, "row(0, 0, -1)");
        after(BUSY).due("row(0, 1, 0)", 0).due("status()", 0);
    }

    private static void itemsAreCut() {
        promise(3, "ITEM i becomes v, its lowest bits, as many as the LANE has: what it is then.");
        int[] bytes = {0, 0, 127, 127, 128, -128, 255, -1, 256, 0, -128, -128, -129, 127, -256, 0};
        int[] shorts = {0, 0, 128, 128, 32767, 32767, 32768, -32768, 65535, -1, 65536, 0, -32768, -32768, -32769, 32767};
        int[] ints = {0, 0, 32768, 32768, 65536, 65536, -32769, -32769, -1, -1};
        cut(0, bytes);
        cut(1, shorts);
        cut(2, ints);
        after("row(0, 0, 1)").due("set(0, 0, MAX)", -1).due("set(0, 0, MIN)", 0);
        after("row(0, 1, 1)").due("set(0, 0, MAX)", -1).due("set(0, 0, MIN)", 0);
        after("row(0, 2, 1)").due("set(0, 0, MAX)", Integer.MAX_VALUE).due("set(0, 0, MIN)", Integer.MIN_VALUE);
        Calls x = after("read " + SIX, "fill 0 0 1 2 3", "fill 1 0 1 2 3").due("set(0, 1, 261)", 5);
        x.due("rules(0, 0, 1, 0)", 2 + 128).due("rules(0, 1, 1, 0)", 32).due("rules(0, 2, 1, 0)", 8 + 512);
        x.due("rules(1, 1, 1, 0)", 4 + 256).due("status()", 0);
    }

    private static void cut(int lane, int[] pairs) {
        Calls x = after("row(0, " + lane + ", 2)");
        for (int i = 0; i < pairs.length; i += 2) {
            x.due("set(0, 1, " + pairs[i] + ")", pairs[i + 1]);
        }
    }

    private static void setIsRefused() {
        promise(3, "BAD: ROW");
        bounds(BUSY, "set(#, 0, 1)", 0, 7);
        promise(3, "NULL");
        refused(BUSY, NULL, "set(1, 0, 1)", "set(6, 39, 1)", "set(1, -1, 1)", "set(1, 40, 1)", "set(1, MAX, 1)");
        refused(with(BUSY, "drop(0)"), NULL, "set(0, 0, 1)");
        promise(3, "PLACE");
        refused(BUSY, PLACE, "set(0, -1, 1)", "set(0, 3, 1)", "set(0, MIN, 1)", "set(0, MAX, 1)", "set(7, 40, 1)", "set(2, 2, 1)");
        refused(with(BUSY, "row(1, 0, 0)"), PLACE, "set(1, 0, 1)", "set(1, -1, 1)");
        after(BUSY).due("set(0, 2, 1)", 1).due("status()", 0).due("set(7, 39, 1)", 1).due("set(2, 1, 9)", 9);
    }

    private static int item(int item) {
        return item < 4 ? 1 << item | 64 << item : 1 << item;
    }

    private static void shows(Calls x, int row, int... items) {
        for (int i = 0; i < items.length; i++) {
            x.due("rules(" + row + ", " + i + ", 1, 0)", item(items[i]));
        }
    }

    private static void itemsAreCopied() {
        promise(4, "n ITEMS of a from i on come to b from j on, as they were ahead: n.");
        String[] rows = {"read " + SIX, "fill 0 1 0 1 2 3 4 5", "fill 1 1 5 5 5"};
        for (int lane : LANES) {
            Calls x = after("read " + SIX, "fill 0 " + lane + " 0 1 2 3 4 5", "fill 1 " + lane + " 5 5 5");
            x.due("copy(0, 2, 1, 0, 3)", 3);
            shows(x, 1, 2, 3, 4);
            shows(x, 0, 0, 1, 2, 3, 4, 5);
        }
        shows(after(rows).due("copy(0, 0, 0, 1, 5)", 5), 0, 0, 0, 1, 2, 3, 4);
        shows(after(rows).due("copy(0, 1, 0, 0, 5)", 5), 0, 1, 2, 3, 4, 5, 5);
        shows(after(rows).due("copy(0, 0, 0, 0, 6)", 6), 0, 0, 1, 2, 3, 4, 5);
        shows(after(rows).due("copy(0, 5, 1, 2, 1)", 1), 1, 5, 5, 5);
        shows(after(rows).due("copy(0, 0, 1, 2, 1)", 1), 1, 5, 5, 0);
        shows(after(rows).due("copy(0, 0, 1, 0, 0)", 0), 1, 5, 5, 5);
        after(rows).due("copy(0, 6, 1, 3, 0)", 0).due("status()", 0);
        after("row(0, 0, 0)").due("copy(0, 0, 0, 0, 0)", 0);
        after("row(0, 2, 40)", "row(7, 2, 40)").due("copy(0, 0, 7, 0, 40)", 40).due("copy(7, 39, 0, 39, 1)", 1);
    }

    private static void copyIsRefused() {
        promise(4, "BAD: ROWS");
        bounds(BUSY, "copy(#, 0, 0, 0, 1)", 0, 7);
        bounds(BUSY, "copy(0, 0, #, 0, 1)", 0, 7);
        refused(BUSY, BAD, "copy(8, 0, 1, 0, 1)", "copy(1, 0, 8, 0, 1)", "copy(-1, -1, -1, -1, -1)", "copy(8, 0, 2, 0, 1)");
        promise(4, "NULL");
        refused(BUSY, NULL, "copy(1, 0, 0, 0, 1)", "copy(0, 0, 1, 0, 1)", "copy(1, 0, 1, 0, 0)", "copy(1, 0, 3, 0, 0)");
        refused(BUSY, NULL, "copy(1, -1, 0, 0, 1)", "copy(0, 0, 1, 99, 1)", "copy(0, 0, 1, 0, -1)", "copy(2, 0, 1, 0, MAX)");
        promise(4, "STORE");
        refused(BUSY, STORE, "copy(0, 0, 2, 0, 1)", "copy(2, 0, 0, 0, 1)", "copy(0, 0, 7, 0, 1)", "copy(7, 0, 0, 0, 1)");
        refused(BUSY, STORE, "copy(2, 0, 7, 0, 1)", "copy(7, 0, 2, 0, 1)", "copy(0, 0, 2, 0, 0)");
        refused(BUSY, STORE, "copy(0, -1, 2, 0, 1)", "copy(0, 0, 2, 9, 1)", "copy(0, 0, 7, 0, -1)", "copy(0, 0, 7, 0, 41)");
    }

    private static void copyPlaces() {
        promise(4, "PLACE (i, j, n below 0, or beyond an end).");
        String[] rows = with(BUSY, "fill 1 0 5 5", "row(4, 0, 0)");
        refused(rows, PLACE, "copy(0, -1, 1, 0, 1)", "copy(0, 0, 1, -1, 1)", "copy(0, 0, 1, 0, -1)", "copy(0, -1, 1, -1, 0)");
        refused(rows, PLACE, "copy(0, MIN, 1, 0, 1)", "copy(0, 0, 1, MIN, 1)", "copy(0, 0, 1, 0, MIN)", "copy(0, 3, 1, 2, -1)");
        refused(rows, PLACE, "copy(0, 2, 1, 0, 2)", "copy(0, 3, 1, 0, 1)", "copy(0, 4, 1, 0, 0)", "copy(0, 0, 1, 1, 2)");
        refused(rows, PLACE, "copy(0, 0, 1, 2, 1)", "copy(0, 0, 1, 3, 0)", "copy(0, 0, 1, 0, 3)", "copy(1, 0, 0, 0, 3)");
        refused(rows, PLACE, "copy(0, 0, 4, 0, 1)", "copy(4, 0, 0, 0, 1)", "copy(4, 1, 4, 0, 0)", "copy(0, 0, 0, 1, 3)");
        // Sums that wrap around.
        refused(rows, PLACE, "copy(0, 1, 1, 0, MAX)", "copy(0, MAX, 1, 0, 1)", "copy(0, 0, 1, MAX, 1)", "copy(0, MAX, 1, MAX, MAX)");
        refused(rows, PLACE, "copy(0, MIN, 1, MIN, MIN)", "copy(0, MAX, 1, 0, MIN)", "copy(7, MAX, 7, 0, 40)");
    }

    private static void rowIsDropped() {
        promise(5, "A ROW is missing from now on: how many ITEMS it had.");
        Calls x = after(BUSY).due("drop(0)", 3).due("status()", 0).due("count(0)", 2).due("set(0, 0, 1)", NULL);
        x.due("copy(0, 0, 2, 0, 1)", NULL).due("march(0, 0, 1, -1)", NULL).due("rules(0, 0, 1, 0)", NULL);
        x.due("fits(0, 0, 0, 0)", NULL).due("drop(7)", 40).due("drop(2)", 2).due("count(0)", 0).due("row(0, 0, 0)", 0).due("drop(0)", 0);
        after("read " + SIX, "fill 0 0 1 2 3", "drop(0)", "row(0, 0, 3)").due("rules(0, 2, 1, 0)", 65);
        promise(5, "BAD");
        bounds(BUSY, "drop(#)", 0, 7);
        promise(5, "NULL");
        refused(BUSY, NULL, "drop(1)", "drop(3)", "drop(6)");
        refused(with(BUSY, "drop(0)"), NULL, "drop(0)");
        refused(with(NO_GATE, "drop(0)"), NULL, "drop(0)", "drop(7)");
    }
}
