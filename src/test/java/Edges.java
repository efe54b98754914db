import java.util.List;
import java.util.Set;

/** What the tests of the document's edges share: gates, states, and the ways of holding an answer against its due. */
abstract class Edges {
    static final int NONE = -1000000, BAD = -1000001, STATE = -1000002, FULL = -1000003;
    static final int NULL = -1000011, PLACE = -1000012, KIND = -1000013, SIZE = -1000014, STORE = -1000015;
    static final int FAULTY = -1000100;
    private static final int FOUND = -1000010;
    /** Those that tell a finding, or that there was none, by status(). */
    private static final Set<String> LEAVE_STATUS = Set.of("row", "set", "copy", "drop", "march", "rules", "fits", "as");

    /** The least gate, and the greatest. */
    static final String ONE = "q0,0,0;waaa;k0;", MOST = "q9,9,6;waaa;wbbb;wccc;wddd;weee;wfff;k9;s9;e9;d9;";
    /** Secrets of nights 0 on: 1 3 0 0 4 1 3 0 2 4 0. To the deaf 0, 2 and 4 are one word, and 1 is two places off them. */
    static final String FIVE = "q1,2,3;wabc;wabd;wfgh;wzzz;wkbc;k3;s5;d2;g9;";
    /** The secret is word 0 on every night; the words have nothing in common; one keen guard. */
    static final String SIX = "q0,0,6;waaa;wbbb;wccc;wddd;weee;wmlk;k1;";

    static final String[] NEW = {};
    /** No gate, but rows, a tape, and a status that is not 0. */
    static final String[] NO_GATE = {"fill 0 0 1 2 3", "tape q1", "set(3, 0, 0)"};
    static final String[] GATE = {"read " + FIVE};
    /**
     * A bit of all that an object can hold. Night 1, START 4, so the secret is 1; rows 0, 2, 7; tries: word 3 taken by
     * guard 3, word 0 not by guard 0; guard 2 dismissed; 6 acts; image 0; a trace, 4 bytes, status 1 (a missing row).
     */
    static final String[] BUSY = {
        "fill 0 0 1 2 3", "fill 2 1 4 5", "row(7, 2, 40)", "read " + FIVE, "say(1, 0)", "image(0)", "nights(1)",
        "say(3, 2)", "say(0, 3)", "dismiss(2, 0)", "start(4)", "ask(1, 0)", "tape q1,2", "set(3, 0, 0)"};

    static void terms(String words) {
        Sentences.begin(0, words);
    }

    static void promise(int number, String words) {
        Sentences.begin(number, words);
    }

    static Calls after(String... calls) {
        return Calls.ofClass().then(calls);
    }

    static Calls after(String[] calls, String... more) {
        return Calls.ofClass().then(calls).then(more);
    }

    static String[] with(String[] calls, String... more) {
        String[] all = java.util.Arrays.copyOf(calls, calls.length + more.length);
        System.arraycopy(more, 0, all, calls.length, more.length);
        return all;
    }

    /** A call's answer, and that all else is as on an object on which it was not made. */
    private static void unchanged(String[] state, String call, int want, boolean tellsStatus) {
        Calls x = after(state);
        Calls y = after(state);
        x.due(call, want);
        int status = y.answer("status()");
        x.due("status()", tellsStatus ? want <= NULL && want >= STORE ? FOUND - want : 0 : status);
        x.due("fault()", y.answer("fault()"));
        same(x.view(), y.view(), call);
    }

    static void same(List<String> seen, List<String> due, String behind) {
        Sentences.checked();
        for (int i = 0; i < due.size(); i++) {
            if (i >= seen.size() || !seen.get(i).equals(due.get(i))) {
                Sentences.wrong("behind " + behind + " is " + (i < seen.size() ? seen.get(i) : "no more") + ", due is " + due.get(i));
                return;
            }
        }
    }

    /** What is refused, or found, changes nothing but status(), and that by findings alone. */
    static void refused(String[] state, String call, int want) {
        unchanged(state, call, want, want <= NULL && want >= STORE);
    }

    static void refused(String[] state, int want, String... calls) {
        for (String call : calls) {
            refused(state, call, want);
        }
    }

    /** What only tells something changes nothing; status() is 0 then, if it is a call that has one. */
    static void told(String[] state, String call, int want) {
        unchanged(state, call, want, LEAVE_STATUS.contains(call.substring(0, call.indexOf('('))));
    }

    /** The argument told by # is not BAD from the least to the most, and is BAD beyond on either side. */
    static void bounds(String[] state, String call, int least, int most) {
        for (int v : new int[] {least, most}) {
            Sentences.checked();
            String told = call.replace("#", "" + v);
            if (after(state).answer(told) == BAD) {
                Sentences.wrong(told + " answered BAD");
            }
        }
        for (int v : new int[] {least - 1, most + 1, Integer.MIN_VALUE, Integer.MAX_VALUE}) {
            refused(state, call.replace("#", "" + v), BAD);
        }
    }
}
