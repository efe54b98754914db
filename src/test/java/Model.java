import java.util.ArrayDeque;
import java.util.ArrayList;
import java.util.Arrays;
import java.util.Deque;
import java.util.List;
import java.util.function.IntPredicate;
import java.util.stream.IntStream;

/** A second reading of the document, as slow and as plain as can be, against which the class is held. */
final class Model {
    private static final int NONE = -1000000, BAD = -1000001, STATE = -1000002, FULL = -1000003;

    private record Guard(String name, int kind, int fee) { }

    private record Try(int word, int guard, boolean taken) { }

    private record Gate(int start, int step, int shrove, List<String> words, List<Guard> guards, int night,
            List<Integer> dismissed, List<Integer> took, List<Try> tries) {
        Gate withStart(int v) {
            return new Gate(v, step, shrove, words, guards, night, dismissed, took, tries);
        }

        Gate withNight() {
            return new Gate(start, step, shrove, words, guards, night + 1, dismissed, took, List.of());
        }

        Gate withDismissed(List<Integer> some) {
            return new Gate(start, step, shrove, words, guards, night, some, took, tries);
        }

        Gate withTry(Try one, int guard) {
            List<Integer> more = new ArrayList<>(took);
            more.set(guard, more.get(guard) + (one.taken ? 1 : 0));
            List<Try> all = new ArrayList<>(tries);
            all.add(one);
            return new Gate(start, step, shrove, words, guards, night, dismissed, more, all);
        }
    }

    private final int[][] rows = new int[8][];
    private final int[] lanes = new int[8];
    private String tape = "";
    private Gate gate = null;
    private final Gate[] images = new Gate[2];
    private final Deque<Gate> past = new ArrayDeque<>();
    private List<Integer> traced = new ArrayList<>();
    private int fault = 0;
    private int status = 0;

    private static boolean in(int v, int least, int most) {
        return v >= least && v <= most;
    }

    private static int bits(int n, IntPredicate so) {
        return IntStream.range(0, n).filter(so).map(i -> 1 << i).sum();
    }

    private boolean word(int w) {
        return gate != null && in(w, 0, gate.words.size() - 1);
    }

    private boolean guardian(int g) {
        return gate != null && in(g, 0, gate.guards.size() - 1);
    }

    private int found(int number) {
        status = number;
        return -1000010 - number;
    }

    private int well(int answer) {
        status = 0;
        return answer;
    }

    private boolean holds(int row, long i, long n) {
        return i >= 0 && n >= 0 && i + n <= rows[row].length;
    }

    int row(int row, int lane, int n) {
        if (!in(row, 0, 7) || !in(lane, 0, 2) || n > 40) {
            return BAD;
        }
        if (n < 0) {
            return found(4);
        }
        rows[row] = new int[n];
        lanes[row] = lane;
        return well(n);
    }

    int set(int row, int i, int v) {
        if (!in(row, 0, 7)) {
            return BAD;
        }
        if (rows[row] == null) {
            return found(1);
        }
        if (!holds(row, i, 1)) {
            return found(2);
        }
        int unused = 32 - (8 << lanes[row]);
        rows[row][i] = v << unused >> unused;
        return well(rows[row][i]);
    }

    int copy(int a, int i, int b, int j, int n) {
        if (!in(a, 0, 7) || !in(b, 0, 7)) {
            return BAD;
        }
        if (rows[a] == null || rows[b] == null) {
            return found(1);
        }
        if (lanes[a] != lanes[b]) {
            return found(5);
        }
        if (!holds(a, i, n) || !holds(b, j, n)) {
            return found(2);
        }
        int[] were = rows[a].clone();
        for (int k = 0; k < n; k++) {
            rows[b][j + k] = were[i + k];
        }
        return well(n);
    }

    int drop(int row) {
        if (!in(row, 0, 7)) {
            return BAD;
        }
        if (rows[row] == null) {
            return found(1);
        }
        int had = rows[row].length;
        rows[row] = null;
        return well(had);
    }

    int feed(int letter) {
        if (!in(letter, 0, 255)) {
            return BAD;
        }
        if (tape.length() == 100) {
            return FULL;
        }
        tape += (char) letter;
        return tape.length();
    }

    /** Tokens one by one, by a table of what may stand next; the state is told by a letter. */
    int gate() {
        String text = tape;
        tape = "";
        List<Integer> numbers = new ArrayList<>();
        List<String> words = new ArrayList<>();
        List<Guard> guards = new ArrayList<>();
        String next = "q0,1,2;W";
        String letters = "";
        int at = 0;
        int fee = -1;
        while (true) {
            int end = at + 1;
            while (at < text.length() && Character.isDigit(text.charAt(at)) && text.charAt(at) < 128
                    && end < text.length() && text.charAt(end) >= '0' && text.charAt(end) <= '9') {
                end++;
            }
            String token = at < text.length() ? text.substring(at, end) : "";
            char want = next.charAt(0);
            boolean number = token.matches("[0-9]{1,2}");
            boolean letter = token.matches("[a-z]");
            int bad = 0;
            String then = next.substring(1);
            if (want == 'q' || want == ',' || want == ';') {
                bad = token.equals("" + want) ? 0 : 1;
            } else if (in(want, '0', '2') || want == 'f') {
                bad = !number ? 1 : Integer.parseInt(token) > (want == '2' ? 6 : 9) ? 2 : 0;
                if (bad == 0 && want == 'f') {
                    guards.set(guards.size() - 1, new Guard("", fee, Integer.parseInt(token)));
                } else if (bad == 0) {
                    numbers.add(Integer.parseInt(token));
                }
            } else if (want == 'a' || want == 'z') {
                letters += token;
                bad = !letter ? 1 : want == 'z' && words.contains(letters) ? 2 : 0;
                if (bad == 0 && want == 'z') {
                    words.add(letters);
                    letters = "";
                }
            } else if (token.equals("w") && (want == 'W' || want == 'E')) {
                bad = words.size() == 6 ? 3 : 0;
                then = "aaz;E";
            } else if (token.matches("[ksedg]") && (want == 'E' || want == 'G')) {
                bad = guards.size() == 4 ? 3 : 0;
                fee = 1 + "ksedg".indexOf(token);
                guards.add(null);
                then = "f;G";
            } else if (token.isEmpty() && want == 'G') {
                break;
            } else {
                bad = 1;
            }
            if (bad != 0) {
                fault = bad;
                return -1000100 - at;
            }
            next = then;
            at = end;
        }
        gate = new Gate(numbers.get(0), numbers.get(1), numbers.get(2), words, guards, 0, List.of(),
                guards.stream().map(g -> 0).toList(), List.of());
        past.clear();
        return words.size();
    }

    int fault() {
        return fault;
    }

    private void act(Gate then) {
        past.push(gate);
        if (past.size() > 24) {
            past.removeLast();
        }
        gate = then;
    }

    int nights(int n) {
        if (gate == null) {
            return STATE;
        }
        if (!in(n, 1, 24)) {
            return BAD;
        }
        if (gate.night + n > 999) {
            return FULL;
        }
        for (int i = 0; i < n; i++) {
            act(gate.withNight());
        }
        return secret(0);
    }

    int say(int word, int hour) {
        if (!word(word) || !in(hour, 0, 5)) {
            return BAD;
        }
        if (gate.tries.size() == 9) {
            return FULL;
        }
        int guard = (gate.night + hour) % gate.guards.size();
        boolean there = !gate.dismissed.contains(guard);
        boolean taken = taken(word, hour, 0) == 1;
        act(gate.withTry(new Try(word, there ? guard : NONE, taken), guard));
        return taken ? 1 : 0;
    }

    int start(int v) {
        if (gate == null) {
            return STATE;
        }
        if (!in(v, 0, 9)) {
            return BAD;
        }
        int was = gate.start;
        act(gate.withStart(v));
        return was;
    }

    int dismiss(int guard, int there) {
        if (!guardian(guard) || !in(there, 0, 1)) {
            return BAD;
        }
        if (gate.dismissed.contains(guard) == (there == 0)) {
            return STATE;
        }
        List<Integer> some = new ArrayList<>(gate.dismissed);
        if (there == 0) {
            some.add(guard);
        } else {
            some.remove((Integer) guard);
        }
        act(gate.withDismissed(some));
        return count(5);
    }

    int undo() {
        if (past.isEmpty()) {
            return STATE;
        }
        gate = past.pop();
        return past.size();
    }

    int letter(int word, int place) {
        return word(word) && in(place, 0, 2) ? gate.words.get(word).charAt(place) - 'a' : BAD;
    }

    int like(int word, int other, int what) {
        if (!word(word) || !word(other) || !in(what, 0, 1)) {
            return BAD;
        }
        return (int) IntStream.range(0, 3).filter(p -> {
            int off = letter(word, p) - letter(other, p);
            return what == 0 ? off != 0 : off % 5 == 0;
        }).count();
    }

    int guard(int guard, int what) {
        if (!guardian(guard) || !in(what, 0, 3)) {
            return BAD;
        }
        int[] all = {gate.guards.get(guard).fee, gate.took.get(guard), gate.dismissed.contains(guard) ? 0 : 1,
            bits(6, h -> (gate.night + h) % gate.guards.size() == guard)};
        return all[what];
    }

    int tried(int k, int what) {
        if (gate == null || !in(k, 0, gate.tries.size() - 1) || !in(what, 0, 2)) {
            return BAD;
        }
        Try one = gate.tries.get(k);
        return what == 0 ? one.word : what == 1 ? one.guard : one.taken ? 1 : 0;
    }

    private int secretOf(int start, int step, int shrove, int t) {
        return t % 7 == shrove ? 0 : (start + step * t) % gate.words.size();
    }

    private boolean takes(int kind, int word, int secret, int t) {
        int far = like(word, secret, 0);
        int lips = like(word, secret, 1);
        return kind == 1 && far == 0 || kind == 2 && far <= 1 || kind == 3 && t % 2 == 0 && far == 0
            || kind == 4 && lips == 3 || kind == 5 && lips >= 2;
    }

    private boolean takenIf(int secret, int word, int hour, int t) {
        int guard = (t + hour) % gate.guards.size();
        return !gate.dismissed.contains(guard) && takes(gate.guards.get(guard).kind, word, secret, t);
    }

    int secret(int d) {
        if (gate == null) {
            return STATE;
        }
        return in(d, 0, 60) ? secretOf(gate.start, gate.step, gate.shrove, gate.night + d) : BAD;
    }

    int taken(int word, int hour, int d) {
        if (!word(word) || !in(hour, 0, 5) || !in(d, 0, 60)) {
            return BAD;
        }
        return takenIf(secret(d), word, hour, gate.night + d) ? 1 : 0;
    }

    int safe(int hour, int d) {
        if (gate == null) {
            return STATE;
        }
        return in(hour, 0, 5) && in(d, 0, 60) ? bits(gate.words.size(), w -> taken(w, hour, d) == 0) : BAD;
    }

    private boolean words(int set) {
        return in(set, 0, (1 << gate.words.size()) - 1);
    }

    private boolean allIn(int set, int hour, int d) {
        return IntStream.range(0, 6).allMatch(w -> (set >> w & 1) == 0 || taken(w, hour, d) == 0);
    }

    int open(int words, int d) {
        if (gate == null) {
            return STATE;
        }
        return words(words) && in(d, 0, 60) ? bits(6, h -> allIn(words, h, d)) : BAD;
    }

    int next(int word) {
        if (!word(word)) {
            return BAD;
        }
        return IntStream.rangeClosed(0, 60).filter(d -> secret(d) == word).findFirst().orElse(NONE);
    }

    int agree() {
        if (gate == null) {
            return STATE;
        }
        return bits(gate.words.size(), s -> gate.tries.stream().allMatch(one -> one.taken
            == (one.guard != NONE && takes(gate.guards.get(one.guard).kind, one.word, s, gate.night))));
    }

    /** The parts of a set of secrets by what comes of a try, those that are empty left out. */
    private List<Integer> parts(int set, int word, int hour) {
        int taken = bits(6, s -> (set >> s & 1) == 1 && takenIf(s, word, hour, gate.night));
        return IntStream.of(taken, set - taken).filter(p -> p != 0).boxed().toList();
    }

    int man(int what) {
        if (gate == null) {
            return STATE;
        }
        if (!in(what, 0, 2)) {
            return BAD;
        }
        int[] best = {0, 0, 99};
        for (int w = 0; w < gate.words.size(); w++) {
            for (int h = 0; h < 6; h++) {
                int left = parts(agree(), w, h).stream().mapToInt(Integer::bitCount).max().orElse(0);
                if (left < best[2]) {
                    best = new int[] {w, h, left};
                }
            }
        }
        return best[what];
    }

    /** Whether so many men are enough for a set. */
    private boolean enough(int set, int men) {
        if (Integer.bitCount(set) <= 1) {
            return true;
        }
        if (men == 0) {
            return false;
        }
        for (int w = 0; w < gate.words.size(); w++) {
            for (int h = 0; h < Math.min(6, gate.guards.size()); h++) {
                List<Integer> parts = parts(set, w, h);
                if (parts.size() == 2 && parts.stream().allMatch(p -> enough(p, men - 1))) {
                    return true;
                }
            }
        }
        return false;
    }

    int fewest() {
        if (gate == null) {
            return STATE;
        }
        int set = agree();
        return IntStream.range(0, 6).filter(men -> enough(set, men)).findFirst().orElse(NONE);
    }

    int march(int row, int i, int n, int k) {
        if (gate == null) {
            return STATE;
        }
        if (!in(row, 0, 7) || !in(n, 1, 6) || !in(k, -1, n - 1)) {
            return BAD;
        }
        if (rows[row] == null) {
            return found(1);
        }
        if (!holds(row, i, n)) {
            return found(2);
        }
        int[] hours = new int[n];
        Arrays.fill(hours, NONE);
        int man = 0;
        for (int hour = 0; hour < 6 && man < n; hour++) {
            if (taken(rows[row][i + man], hour, 0) == 0) {
                hours[man] = hour;
                man++;
            }
        }
        return well(hours[k == -1 ? n - 1 : k]);
    }

    int cheap(int words, int d, int what) {
        if (gate == null) {
            return STATE;
        }
        if (!words(words) || !in(d, 0, 60) || !in(what, 0, 1)) {
            return BAD;
        }
        Gate kept = gate;
        int best = -1;
        long least = Long.MAX_VALUE;
        for (int set = 0; set < 1 << kept.guards.size(); set++) {
            int some = set;
            if (kept.dismissed.stream().anyMatch(g -> (some >> g & 1) == 1)) {
                continue;
            }
            List<Integer> gone = new ArrayList<>(kept.dismissed);
            int fee = 0;
            for (int g = 0; g < kept.guards.size(); g++) {
                if ((set >> g & 1) == 1) {
                    gone.add(g);
                    fee += kept.guards.get(g).fee;
                }
            }
            gate = kept.withDismissed(gone);
            long cost = fee * 10000L + Integer.bitCount(set) * 100 + set;
            if (open(words, d) == 63 && cost < least) {
                best = set;
                least = cost;
            }
        }
        gate = kept;
        return what == 1 ? best : (int) (least / 10000);
    }

    int near(int word, int what) {
        if (!word(word) || !in(what, 0, 1)) {
            return BAD;
        }
        for (int far = 1; far <= 3; far++) {
            for (int other = 0; other < gate.words.size(); other++) {
                if (like(word, other, 0) == far) {
                    return what == 0 ? other : far;
                }
            }
        }
        return NONE;
    }

    int rules(int row, int i, int n, int what) {
        if (gate == null) {
            return STATE;
        }
        if (!in(row, 0, 7) || !in(n, 1, 16) || !in(what, 0, 2)) {
            return BAD;
        }
        if (rows[row] == null) {
            return found(1);
        }
        if (!holds(row, i, n)) {
            return found(2);
        }
        return well(bits(what == 2 ? 7 : 10, v -> IntStream.range(0, n).allMatch(j -> rows[row][i + j]
            == secretOf(what == 0 ? v : gate.start, what == 1 ? v : gate.step, what == 2 ? v : gate.shrove, gate.night + j))));
    }

    private boolean as(int kind, int secret, int row, int i) {
        return IntStream.range(0, gate.words.size())
            .allMatch(w -> rows[row][i + w] == (takes(kind, w, secret, gate.night) ? 1 : 0));
    }

    int fits(int guard, int row, int i, int what) {
        if (!guardian(guard) || !in(row, 0, 7) || !in(what, 0, 1)) {
            return BAD;
        }
        if (rows[row] == null) {
            return found(1);
        }
        if (!holds(row, i, gate.words.size())) {
            return found(2);
        }
        return well(what == 0 ? bits(6, kind -> kind > 0 && as(kind, secret(0), row, i))
            : bits(gate.words.size(), s -> as(gate.guards.get(guard).kind, s, row, i)));
    }

    int sure(int word, int hour, int c, int what) {
        if (!word(word) || !in(hour, 0, 5) || !in(c, 0, 10) || !in(what, 0, 1)) {
            return BAD;
        }
        int set = agree();
        int above = 0;
        int below = 0;
        for (int s = 0; s < gate.words.size(); s++) {
            if ((set >> s & 1) == 1) {
                above += takenIf(s, word, hour, gate.night) ? c : 10;
                below += 10;
            }
        }
        if (above == 0) {
            return what;
        }
        int by = java.math.BigInteger.valueOf(above).gcd(java.math.BigInteger.valueOf(below)).intValue();
        return what == 0 ? above / by : below / by;
    }

    int drawn(int n, int seed, int what) {
        if (gate == null) {
            return STATE;
        }
        if (!in(n, 0, 60) || !in(seed, 1, 999999) || !in(what, 0, 1)) {
            return BAD;
        }
        long x = seed;
        int caught = 0;
        int passed = 0;
        for (int night = 0; night < n; night++) {
            x = x * 16807 % 2147483647;
            int w = (int) (x % gate.words.size());
            if (taken(w, (int) (x % 6), night) == 1) {
                caught++;
            } else {
                passed |= 1 << w;
            }
        }
        return what == 0 ? caught : passed;
    }

    int image(int k) {
        if (!in(k, 0, 1)) {
            return BAD;
        }
        if (gate == null) {
            return STATE;
        }
        images[k] = gate;
        return 1;
    }

    int restore(int k) {
        if (!in(k, 0, 1)) {
            return BAD;
        }
        if (images[k] == null) {
            return STATE;
        }
        gate = images[k];
        past.clear();
        return 1;
    }

    int kind(int guard) {
        return guardian(guard) ? gate.guards.get(guard).kind : BAD;
    }

    int as(int guard, int kind) {
        if (!guardian(guard) || !in(kind, 0, 5)) {
            return BAD;
        }
        String[] is = {"0", "01", "012", "013", "04", "045"};
        return is[kind(guard)].indexOf('0' + kind) >= 0 ? well(guard) : found(3);
    }

    private class Any {
        final int number;

        Any(int number) {
            this.number = number;
        }

        int size() {
            traced.add(10);
            return gate.guards.get(number).fee;
        }

        int mark() {
            traced.add(20);
            return number;
        }
    }

    private class Keen extends Any {
        Keen(int number) {
            super(number);
        }

        @Override int size() {
            traced.add(11);
            return super.size() + mark();
        }

        @Override int mark() {
            traced.add(21);
            return super.mark() + gate.took.get(number);
        }
    }

    private class Sharp extends Keen {
        Sharp(int number) {
            super(number);
        }

        @Override int size() {
            traced.add(12);
            return -super.size();
        }

        @Override int mark() {
            traced.add(24);
            return super.mark() * 2;
        }
    }

    private class Sleepy extends Keen {
        Sleepy(int number) {
            super(number);
        }

        @Override int mark() {
            traced.add(22);
            return super.mark() - 1000;
        }
    }

    private class Deaf extends Any {
        Deaf(int number) {
            super(number);
        }

        @Override int size() {
            traced.add(13);
            return super.size() - 100;
        }

        @Override int mark() {
            traced.add(23);
            return super.mark() - size();
        }
    }

    private class Sergeant extends Deaf {
        Sergeant(int number) {
            super(number);
        }

        @Override int size() {
            traced.add(14);
            return super.size() * 2;
        }
    }

    int ask(int guard, int what) {
        if (!guardian(guard) || !in(what, 0, 1)) {
            return BAD;
        }
        traced = new ArrayList<>();
        Any[] all = {null, new Keen(guard), new Sharp(guard), new Sleepy(guard), new Deaf(guard), new Sergeant(guard)};
        return what == 0 ? all[kind(guard)].size() : all[kind(guard)].mark();
    }

    int trace(int i) {
        return in(i, 0, Math.min(traced.size(), 16) - 1) ? traced.get(i) : NONE;
    }

    int count(int what) {
        if (what == 0) {
            return (int) Arrays.stream(rows).filter(r -> r != null).count();
        }
        if (what == 7) {
            return tape.length();
        }
        if (!in(what, 0, 9)) {
            return BAD;
        }
        if (gate == null) {
            return 0;
        }
        int[] all = {0, gate.words.size(), gate.guards.size(), gate.night, gate.tries.size(),
            bits(gate.guards.size(), g -> !gate.dismissed.contains(g)), past.size(), 0, gate.start,
            gate.took.stream().mapToInt(t -> t).sum()};
        return all[what];
    }

    int status() {
        return status;
    }
}
