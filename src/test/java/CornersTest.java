import java.util.ArrayList;
import java.util.List;
import java.util.Set;

/**
 * Every call with every mix of arguments at and beyond their edges, in states that are empty, full and neither, held
 * against the model: so the order of refusals is tested for all that can be wrong at once.
 */
public final class CornersTest extends Edges {
    private static final int MIN = Integer.MIN_VALUE, MAX = Integer.MAX_VALUE;
    private static final int[] ROW = {-1, 0, 1, 2, 7, 8}, PLACES = {MIN, -1, 0, 1, 3, 34, 40, MAX}, MANY = {MIN, -1, 0, 1, 6, 7, 40, 41, MAX};
    private static final int[] WORD = {MIN, -1, 0, 1, 4, 5, 6}, HOUR = {-1, 0, 3, 5, 6, MAX}, GUARD = {-1, 0, 2, 3, 4, MIN};
    private static final int[] AHEAD = {MIN, -1, 0, 1, 60, 61, MAX}, WHAT = {-1, 0, 1, 2, 3}, TWO = {MIN, -1, 0, 1, 2, MAX};
    private static final int[] WORDS = {MIN, -1, 0, 1, 2, 18, 31, 32, 63, 64, MAX}, TEN = {MIN, -1, 0, 3, 9, 10, 11, MAX};
    private static final Set<String> CHANGE = Set.of("row", "set", "copy", "drop", "feed", "gate", "nights", "say", "start", "dismiss", "undo",
        "image", "restore", "ask");
    /** A night of which 9 tried, the last night, the greatest gate at its fullest, the least; all guards dismissed; a full tape. */
    private static final String[][] STATES = {
        NEW, NO_GATE, GATE, BUSY,
        {"read " + FIVE, "4 * say(1, 0)", "start(3)", "5 * say(0, 1)", "fill 1 1 3 0 0 0 3", "row(2, 2, 40)", "image(1)"},
        {"read " + SIX, "41 * nights(24)", "nights(15)", "say(3, 2)", "fill 7 2 0 1 0 0 0 0 1"},
        {"read " + MOST, "nights(7)", "dismiss(0, 0)", "dismiss(1, 0)", "dismiss(2, 0)", "dismiss(3, 0)", "say(0, 0)", "fill 0 0 1 0 5 5 4 4 3"},
        {"read " + ONE, "fill 0 0 1 0", "fill 1 0 0 0 0", "image(0)", "nights(24)", "nights(3)", "ask(0, 0)", "tape " + ONE},
        {"read " + ONE, "tape " + MOST, "51 * feed(107)"}};

    private static int compared = 0;

    private CornersTest() {
    }

    private static int[][] edgesOf(String name) {
        return switch (name) {
            case "row" -> new int[][] {ROW, {-1, 0, 1, 2, 3}, MANY};
            case "set" -> new int[][] {ROW, PLACES, {MIN, -129, -1, 0, 1, 128, 65536, MAX}};
            case "copy" -> new int[][] {ROW, {MIN, -1, 0, 1, 3, MAX}, ROW, {MIN, -1, 0, 2, 40, MAX}, {MIN, -1, 0, 1, 2, MAX}};
            case "drop" -> new int[][] {ROW};
            case "feed" -> new int[][] {{MIN, -1, 0, 97, 255, 256, MAX}};
            case "nights" -> new int[][] {{MIN, -1, 0, 1, 24, 25, MAX}};
            case "say" -> new int[][] {WORD, HOUR};
            case "start" -> new int[][] {TEN};
            case "dismiss" -> new int[][] {GUARD, TWO};
            case "letter" -> new int[][] {WORD, WHAT};
            case "like" -> new int[][] {WORD, WORD, TWO};
            case "guard" -> new int[][] {GUARD, {MIN, -1, 0, 1, 2, 3, 4, MAX}};
            case "tried" -> new int[][] {{MIN, -1, 0, 1, 8, 9, MAX}, WHAT};
            case "secret" -> new int[][] {AHEAD};
            case "taken" -> new int[][] {WORD, HOUR, AHEAD};
            case "safe" -> new int[][] {HOUR, AHEAD};
            case "open" -> new int[][] {WORDS, AHEAD};
            case "next" -> new int[][] {WORD};
            case "man" -> new int[][] {WHAT};
            case "march" -> new int[][] {ROW, PLACES, MANY, {MIN, -2, -1, 0, 5, 6, MAX}};
            case "cheap" -> new int[][] {WORDS, AHEAD, TWO};
            case "near" -> new int[][] {WORD, TWO};
            case "rules" -> new int[][] {ROW, PLACES, {MIN, -1, 0, 1, 2, 16, 17, MAX}, WHAT};
            case "fits" -> new int[][] {GUARD, ROW, PLACES, TWO};
            case "sure" -> new int[][] {WORD, HOUR, TEN, TWO};
            case "drawn" -> new int[][] {AHEAD, {MIN, -1, 0, 1, 999999, 1000000, MAX}, TWO};
            case "image", "restore" -> new int[][] {TWO};
            case "kind" -> new int[][] {GUARD};
            case "as" -> new int[][] {GUARD, {MIN, -1, 0, 1, 2, 3, 4, 5, 6, MAX}};
            case "ask" -> new int[][] {GUARD, TWO};
            case "trace" -> new int[][] {{MIN, -1, 0, 1, 3, 4, 15, 16, MAX}};
            case "count" -> new int[][] {{MIN, -1, 0, 1, 2, 3, 4, 5, 6, 7, 8, 9, 10, MAX}};
            default -> new int[0][];
        };
    }

    private static List<int[]> mixes(int[][] edges) {
        List<int[]> all = new ArrayList<>();
        all.add(new int[0]);
        for (int[] values : edges) {
            List<int[]> longer = new ArrayList<>();
            for (int[] ahead : all) {
                for (int value : values) {
                    int[] mix = java.util.Arrays.copyOf(ahead, ahead.length + 1);
                    mix[ahead.length] = value;
                    longer.add(mix);
                }
            }
            all = longer;
        }
        return all;
    }

    private static void hold(String[] state, String name) {
        Sentences.begin(0, name + " behind " + String.join(", ", state));
        Calls x = Calls.ofClass().then(state);
        Calls model = Calls.ofModel().then(state);
        int fresh = x.made();
        for (int[] args : mixes(edgesOf(name))) {
            int got = x.answer(name, args);
            int want = model.answer(name, args);
            compared++;
            if (got != want || x.answer("status()") != model.answer("status()") || x.answer("fault()") != model.answer("fault()")) {
                Sentences.wrong(name + java.util.Arrays.toString(args) + " answered " + got + ", the model " + want + ", or status, fault differ");
                return;
            }
            boolean changed = CHANGE.contains(name) && got > NONE;
            if (changed || x.made() > fresh + 30) {
                same(x.view(), model.view(), name + java.util.Arrays.toString(args));
                x = Calls.ofClass().then(state);
                model = Calls.ofModel().then(state);
            }
        }
        same(x.view(), model.view(), name);
    }

    public static void main(String[] args) {
        for (String name : Calls.names()) {
            if (edgesOf(name).length != Calls.parametersOf(name)) {
                Sentences.wrong("there are no edges for " + name);
            }
            for (String[] state : STATES) {
                hold(state, name);
            }
        }
        System.out.println(compared + " calls at their edges held against the model, " + Sentences.wrongs() + " wrong");
        if (Sentences.wrongs() != 0) {
            System.exit(1);
        }
    }
}
