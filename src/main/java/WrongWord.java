/** A gate at which whoever says the watchword is taken for a spy; all answers are numbers, refusals too. */
public final class WrongWord {
    public static final int NONE = -1000000, BAD = -1000001, STATE = -1000002, FULL = -1000003;

    private static final int FOUND = -1000010, FAULTY = -1000100;
    private static final int NULL = 1, PLACE = 2, KIND = 3, SIZE = 4, STORE = 5;
    private static final int MISSING = -1, BYTES = 0, SHORTS = 1, INTS = 2;
    private static final int ROWS = 8, MOST_ITEMS = 40, MOST_BYTES = 100, IMAGES = 2;
    private static final int MOST_WORDS = 6, LETTERS = 3, MOST_GUARDS = 4, HOURS = 6, WEEK = 7;
    private static final int MOST_TRIES = 9, MOST_ACTS = 24, LAST_NIGHT = 999, FORESIGHT = 60;
    private static final int MOST_START = 9, MOST_STEP = 9, MOST_SHROVE = 6, MOST_FEE = 9;
    private static final int MOST_MARCH = 6, MOST_TOLD = 16, TENTHS = 10, MOST_SEED = 999999;
    private static final int ANY = 0, KEEN = 1, SHARP = 2, SLEEPY = 3, DEAF = 4, SERGEANT = 5;
    private static final int CANNOT_STAND = 1, NOT_AS_TOLD = 2, NO_ROOM = 3;

    private final Row[] rows = new Row[ROWS];
    private final Tape tape = new Tape();
    private final Gate gate = new Gate();
    private final Acts acts = new Acts();
    private final Gate[] images = new Gate[IMAGES];
    private final Guesses guesses = new Guesses();
    private final Asks asks = new Asks();
    private int latestFault;
    private int latestFinding;

    public WrongWord() {
        for (int i = 0; i < ROWS; i++) {
            rows[i] = new Row();
        }
        for (int i = 0; i < IMAGES; i++) {
            images[i] = new Gate();
        }
    }

    // ---- rows

    public int row(int row, int lane, int n) {
        if (!isRow(row) || lane < BYTES || lane > INTS || n > MOST_ITEMS) {
            return BAD;
        }
        if (n < 0) {
            return found(SIZE);
        }
        rows[row].make(lane, n);
        return unfound(n);
    }

    public int set(int row, int i, int v) {
        if (!isRow(row)) {
            return BAD;
        }
        int finding = rows[row].findingOf(i, 1);
        return finding != 0 ? found(finding) : unfound(rows[row].put(i, v));
    }

    public int copy(int a, int i, int b, int j, int n) {
        if (!isRow(a) || !isRow(b)) {
            return BAD;
        }
        Row from = rows[a];
        Row to = rows[b];
        if (from.lane == MISSING || to.lane == MISSING) {
            return found(NULL);
        }
        if (from.lane != to.lane) {
            return found(STORE);
        }
        if (!from.reaches(i, n) || !to.reaches(j, n)) {
            return found(PLACE);
        }
        System.arraycopy(from.items, i, to.items, j, n);
        return unfound(n);
    }

    public int drop(int row) {
        if (!isRow(row)) {
            return BAD;
        }
        if (rows[row].lane == MISSING) {
            return found(NULL);
        }
        rows[row].lane = MISSING;
        return unfound(rows[row].size);
    }

    // ---- gates, acts

    public int feed(int letter) {
        if (letter < 0 || letter > 255) {
            return BAD;
        }
        return tape.append(letter) ? tape.length : FULL;
    }

    public int gate() {
        boolean whole = tape.read();
        tape.length = 0;
        if (!whole) {
            latestFault = tape.fault;
            return FAULTY - tape.place;
        }
        gate.become(tape.draft);
        acts.forget();
        return gate.words;
    }

    public int fault() {
        return latestFault;
    }

    public int nights(int n) {
        if (noGate()) {
            return STATE;
        }
        if (n < 1 || n > MOST_ACTS) {
            return BAD;
        }
        if (gate.now.night + n > LAST_NIGHT) {
            return FULL;
        }
        for (int i = 0; i < n; i++) {
            acts.keep(gate.now);
            gate.now.goBy();
        }
        return gate.secretIn(0);
    }

    public int say(int word, int hour) {
        if (!isWord(word) || !isHour(hour)) {
            return BAD;
        }
        if (gate.now.tries >= MOST_TRIES) {
            return FULL;
        }
        int guard = gate.guardOn(gate.now.night, hour);
        boolean caught = gate.catches(word, hour, 0);
        acts.keep(gate.now);
        gate.now.addTry(word, gate.isThere(guard) ? guard : NONE, caught);
        return bit(caught);
    }

    public int start(int v) {
        if (noGate()) {
            return STATE;
        }
        if (v < 0 || v > MOST_START) {
            return BAD;
        }
        int was = gate.now.start;
        acts.keep(gate.now);
        gate.now.start = v;
        return was;
    }

    public int dismiss(int guard, int there) {
        if (!isGuard(guard) || there < 0 || there > 1) {
            return BAD;
        }
        if (bit(gate.isThere(guard)) == there) {
            return STATE;
        }
        acts.keep(gate.now);
        gate.now.there ^= 1 << guard;
        return gate.now.there;
    }

    public int undo() {
        return acts.takeBack(gate.now) ? acts.kept : STATE;
    }

    public int letter(int word, int place) {
        if (!isWord(word) || place < 0 || place >= LETTERS) {
            return BAD;
        }
        return gate.letters[word * LETTERS + place];
    }

    public int like(int word, int other, int what) {
        if (!isWord(word) || !isWord(other) || what < 0 || what > 1) {
            return BAD;
        }
        return what == 0 ? gate.distance(word, other) : gate.lips(word, other);
    }

    public int guard(int guard, int what) {
        if (!isGuard(guard)) {
            return BAD;
        }
        switch (what) {
            case 0:
                return gate.fees[guard];
            case 1:
                return gate.now.took[guard];
            case 2:
                return bit(gate.isThere(guard));
            case 3:
                return gate.hoursOf(guard);
            default:
                return BAD;
        }
    }

    public int tried(int k, int what) {
        if (k < 0 || k >= gate.now.tries) {
            return BAD;
        }
        switch (what) {
            case 0:
                return gate.now.triedWord[k];
            case 1:
                return gate.now.triedGuard[k];
            case 2:
                return gate.now.triedTaken[k];
            default:
                return BAD;
        }
    }

    // ---- foretold

    public int secret(int d) {
        if (noGate()) {
            return STATE;
        }
        return isAhead(d) ? gate.secretIn(d) : BAD;
    }

    public int taken(int word, int hour, int d) {
        if (!isWord(word) || !isHour(hour) || !isAhead(d)) {
            return BAD;
        }
        return bit(gate.catches(word, hour, d));
    }

    public int safe(int hour, int d) {
        if (noGate()) {
            return STATE;
        }
        return isHour(hour) && isAhead(d) ? gate.wordsIn(hour, d) : BAD;
    }

    public int open(int words, int d) {
        if (noGate()) {
            return STATE;
        }
        return areWords(words) && isAhead(d) ? gate.hoursOpen(words, d) : BAD;
    }

    public int next(int word) {
        return isWord(word) ? gate.nightsUntil(word) : BAD;
    }

    public int agree() {
        return noGate() ? STATE : Guesses.agreeing(gate);
    }

    public int man(int what) {
        if (noGate()) {
            return STATE;
        }
        if (what < 0 || what > 2) {
            return BAD;
        }
        int among = Guesses.agreeing(gate);
        int best = Guesses.bestTry(gate, among);
        if (what == 2) {
            return Guesses.leftAtWorst(gate, best, among);
        }
        return what == 0 ? best / HOURS : best % HOURS;
    }

    public int fewest() {
        return noGate() ? STATE : guesses.fewestMen(gate, Guesses.agreeing(gate));
    }

    public int march(int row, int i, int n, int k) {
        if (noGate()) {
            return STATE;
        }
        if (!isRow(row) || n < 1 || n > MOST_MARCH || k < -1 || k >= n) {
            return BAD;
        }
        int finding = rows[row].findingOf(i, n);
        if (finding != 0) {
            return found(finding);
        }
        return unfound(hourOfLast(rows[row], i, k == -1 ? n : k + 1));
    }

    public int cheap(int words, int d, int what) {
        if (noGate()) {
            return STATE;
        }
        if (!areWords(words) || !isAhead(d) || what < 0 || what > 1) {
            return BAD;
        }
        int inTheWay = gate.guardsAgainst(words, d);
        return what == 0 ? gate.feeOf(inTheWay) : inTheWay;
    }

    public int near(int word, int what) {
        if (!isWord(word) || what < 0 || what > 1) {
            return BAD;
        }
        int nearest = gate.nearestTo(word);
        return what == 0 || nearest == NONE ? nearest : gate.distance(word, nearest);
    }

    public int rules(int row, int i, int n, int what) {
        if (noGate()) {
            return STATE;
        }
        if (!isRow(row) || n < 1 || n > MOST_TOLD || what < 0 || what > 2) {
            return BAD;
        }
        int finding = rows[row].findingOf(i, n);
        return finding != 0 ? found(finding) : unfound(rulesThatTell(rows[row], i, n, what));
    }

    public int fits(int guard, int row, int i, int what) {
        if (!isGuard(guard) || !isRow(row) || what < 0 || what > 1) {
            return BAD;
        }
        int finding = rows[row].findingOf(i, gate.words);
        if (finding != 0) {
            return found(finding);
        }
        return unfound(what == 0 ? kindsThatFit(rows[row], i) : secretsThatFit(gate.kinds[guard], rows[row], i));
    }

    public int sure(int word, int hour, int c, int what) {
        if (!isWord(word) || !isHour(hour) || c < 0 || c > TENTHS || what < 0 || what > 1) {
            return BAD;
        }
        int among = Guesses.agreeing(gate);
        int all = Integer.bitCount(among);
        int caught = Integer.bitCount(among & Guesses.secretsCatching(gate, word, hour));
        int above = (all - caught) * TENTHS + caught * c;
        int below = all == 0 ? 1 : all * TENTHS;
        return lowest(what == 0 ? above : below, commonDivisor(above, below));
    }

    public int drawn(int n, int seed, int what) {
        if (noGate()) {
            return STATE;
        }
        if (n < 0 || n > FORESIGHT || seed < 1 || seed > MOST_SEED || what < 0 || what > 1) {
            return BAD;
        }
        long x = seed;
        int caught = 0;
        int gotIn = 0;
        for (int d = 0; d < n; d++) {
            x = x * 16807L % 2147483647L;
            int word = rest((int) x, gate.words);
            if (gate.catches(word, (int) x % HOURS, d)) {
                caught++;
            } else {
                gotIn |= 1 << word;
            }
        }
        return what == 0 ? caught : gotIn;
    }

    public int image(int k) {
        if (k < 0 || k >= IMAGES) {
            return BAD;
        }
        if (noGate()) {
            return STATE;
        }
        images[k].become(gate);
        return 1;
    }

    public int restore(int k) {
        if (k < 0 || k >= IMAGES) {
            return BAD;
        }
        if (images[k].words == 0) {
            return STATE;
        }
        gate.become(images[k]);
        acts.forget();
        return 1;
    }

    // ---- asked

    public int kind(int guard) {
        return isGuard(guard) ? gate.kinds[guard] : BAD;
    }

    public int as(int guard, int kind) {
        if (!isGuard(guard) || kind < ANY || kind > SERGEANT) {
            return BAD;
        }
        return Asks.isA(gate.kinds[guard], kind) ? unfound(guard) : found(KIND);
    }

    public int ask(int guard, int what) {
        if (!isGuard(guard) || what < 0 || what > 1) {
            return BAD;
        }
        asks.turnTo(guard, gate.kinds[guard], gate.fees[guard], gate.now.took[guard]);
        return asks.answer(what);
    }

    public int trace(int i) {
        return i < 0 || i >= asks.begun ? NONE : asks.bodies[i];
    }

    public int count(int what) {
        switch (what) {
            case 0:
                return rowsThere();
            case 1:
                return gate.words;
            case 2:
                return gate.guards;
            case 3:
                return gate.now.night;
            case 4:
                return gate.now.tries;
            case 5:
                return gate.now.there;
            case 6:
                return acts.kept;
            case 7:
                return tape.length;
            case 8:
                return gate.now.start;
            case 9:
                return gate.now.tookInAll();
            default:
                return BAD;
        }
    }

    public int status() {
        return latestFinding;
    }

    // ---- what the calls lean on

    private int found(int finding) {
        latestFinding = finding;
        return FOUND - finding;
    }

    private int unfound(int answer) {
        latestFinding = 0;
        return answer;
    }

    private boolean noGate() {
        return gate.words == 0;
    }

    private boolean isRow(int row) {
        return row >= 0 && row < ROWS;
    }

    private boolean isWord(int word) {
        return word >= 0 && word < gate.words;
    }

    private boolean areWords(int words) {
        return words >= 0 && words < 1 << gate.words;
    }

    private boolean isGuard(int guard) {
        return guard >= 0 && guard < gate.guards;
    }

    private boolean isHour(int hour) {
        return hour >= 0 && hour < HOURS;
    }

    private boolean isAhead(int d) {
        return d >= 0 && d <= FORESIGHT;
    }

    private int rowsThere() {
        int there = 0;
        for (int i = 0; i < ROWS; i++) {
            if (rows[i].lane != MISSING) {
                there++;
            }
        }
        return there;
    }

    /** The hour of the last of so many men; those behind him have no say in it. */
    private int hourOfLast(Row told, int i, int men) {
        int hour = -1;
        for (int j = 0; j < men; j++) {
            int word = told.items[i + j];
            hour = isWord(word) ? gate.hourIn(word, hour + 1) : NONE;
            if (hour == NONE) {
                return NONE;
            }
        }
        return hour;
    }

    /** Each part of the law is tried by itself, the other two being as they are. */
    private int rulesThatTell(Row told, int i, int n, int part) {
        int most = part == 2 ? MOST_SHROVE : part == 1 ? MOST_STEP : MOST_START;
        int bits = 0;
        for (int v = 0; v <= most; v++) {
            int start = part == 0 ? v : gate.now.start;
            int step = part == 1 ? v : gate.step;
            int shrove = part == 2 ? v : gate.shrove;
            boolean tells = true;
            for (int j = 0; j < n && tells; j++) {
                tells = gate.secretBy(start, step, shrove, gate.now.night + j) == told.items[i + j];
            }
            bits |= bit(tells) << v;
        }
        return bits;
    }

    private int kindsThatFit(Row told, int i) {
        int secret = gate.secretIn(0);
        int bits = 0;
        for (int kind = KEEN; kind <= SERGEANT; kind++) {
            bits |= bit(fitsTold(kind, secret, told, i)) << kind;
        }
        return bits;
    }

    private int secretsThatFit(int kind, Row told, int i) {
        int bits = 0;
        for (int secret = 0; secret < gate.words; secret++) {
            bits |= bit(fitsTold(kind, secret, told, i)) << secret;
        }
        return bits;
    }

    private boolean fitsTold(int kind, int secret, Row told, int i) {
        for (int word = 0; word < gate.words; word++) {
            if (bit(gate.wouldTake(kind, word, secret, gate.now.night)) != told.items[i + word]) {
                return false;
            }
        }
        return true;
    }

    private static int bit(boolean so) {
        return so ? 1 : 0;
    }

    private static int rest(int number, int by) {
        return by > 0 ? number % by : 0;
    }

    private static int lowest(int number, int divisor) {
        return divisor > 0 ? number / divisor : number;
    }

    private static int commonDivisor(int above, int below) {
        for (int d = below; d > 1; d--) {
            if (above % d == 0 && below % d == 0) {
                return d;
            }
        }
        return 1;
    }

    /** A row of the user's; it keeps its items' room while it is missing. */
    private static final class Row {
        final int[] items = new int[MOST_ITEMS];
        int lane = MISSING;
        int size;

        void make(int newLane, int n) {
            lane = newLane;
            size = n;
            for (int i = 0; i < MOST_ITEMS; i++) {
                items[i] = 0;
            }
        }

        /** Written so that no sum of the two can wrap around. */
        boolean reaches(int i, int n) {
            return i >= 0 && n >= 0 && i <= size - n;
        }

        int findingOf(int i, int n) {
            if (lane == MISSING) {
                return NULL;
            }
            return reaches(i, n) ? 0 : PLACE;
        }

        int put(int i, int v) {
            items[i] = lane == BYTES ? (byte) v : lane == SHORTS ? (short) v : v;
            return items[i];
        }
    }

    /** All that acts change of a gate, so that an act is undone by the moment ahead of it. */
    private static final class Moment {
        final int[] took = new int[MOST_GUARDS];
        final int[] triedWord = new int[MOST_TRIES];
        final int[] triedGuard = new int[MOST_TRIES];
        final int[] triedTaken = new int[MOST_TRIES];
        int night;
        int start;
        int there;
        int tries;

        /** The first night, its START being told already. */
        void begin(int guards) {
            night = 0;
            there = (1 << guards) - 1;
            tries = 0;
            for (int i = 0; i < MOST_GUARDS; i++) {
                took[i] = 0;
            }
        }

        void become(Moment other) {
            night = other.night;
            start = other.start;
            there = other.there;
            tries = other.tries;
            System.arraycopy(other.took, 0, took, 0, MOST_GUARDS);
            System.arraycopy(other.triedWord, 0, triedWord, 0, MOST_TRIES);
            System.arraycopy(other.triedGuard, 0, triedGuard, 0, MOST_TRIES);
            System.arraycopy(other.triedTaken, 0, triedTaken, 0, MOST_TRIES);
        }

        void goBy() {
            night++;
            tries = 0;
        }

        /** The guard is NONE if he is dismissed: then he tells nothing of the secret. */
        void addTry(int word, int guard, boolean caught) {
            if (tries >= MOST_TRIES) {
                return;
            }
            triedWord[tries] = word;
            triedGuard[tries] = guard;
            triedTaken[tries] = bit(caught);
            tries++;
            if (caught && guard >= 0 && guard < MOST_GUARDS) {
                took[guard]++;
            }
        }

        int tookInAll() {
            int all = 0;
            for (int i = 0; i < MOST_GUARDS; i++) {
                all += took[i];
            }
            return all;
        }
    }

    /** The acts that can be undone, as the moments ahead of them, in a ring. */
    private static final class Acts {
        final Moment[] ahead = new Moment[MOST_ACTS];
        int at;
        int kept;

        Acts() {
            for (int i = 0; i < MOST_ACTS; i++) {
                ahead[i] = new Moment();
            }
        }

        void forget() {
            kept = 0;
        }

        void keep(Moment moment) {
            ahead[at].become(moment);
            at = at + 1 < MOST_ACTS ? at + 1 : 0;
            kept = Math.min(kept + 1, MOST_ACTS);
        }

        boolean takeBack(Moment moment) {
            if (kept == 0) {
                return false;
            }
            at = at > 0 ? at - 1 : MOST_ACTS - 1;
            kept--;
            moment.become(ahead[at]);
            return true;
        }
    }

    /** A gate as told and as it stands now; one without words stands for none. */
    private static final class Gate {
        final int[] letters = new int[MOST_WORDS * LETTERS];
        final int[] kinds = new int[MOST_GUARDS];
        final int[] fees = new int[MOST_GUARDS];
        final Moment now = new Moment();
        int step;
        int shrove;
        int words;
        int guards;

        void become(Gate other) {
            System.arraycopy(other.letters, 0, letters, 0, MOST_WORDS * LETTERS);
            System.arraycopy(other.kinds, 0, kinds, 0, MOST_GUARDS);
            System.arraycopy(other.fees, 0, fees, 0, MOST_GUARDS);
            now.become(other.now);
            step = other.step;
            shrove = other.shrove;
            words = other.words;
            guards = other.guards;
        }

        int secretBy(int byStart, int byStep, int byShrove, int night) {
            return night % WEEK == byShrove ? 0 : rest(byStart + byStep * night, words);
        }

        int secretIn(int d) {
            return secretBy(now.start, step, shrove, now.night + d);
        }

        int distance(int word, int other) {
            int differ = 0;
            for (int i = 0; i < LETTERS; i++) {
                if (letters[word * LETTERS + i] != letters[other * LETTERS + i]) {
                    differ++;
                }
            }
            return differ;
        }

        int lips(int word, int other) {
            int alike = 0;
            for (int i = 0; i < LETTERS; i++) {
                if (letters[word * LETTERS + i] % 5 == letters[other * LETTERS + i] % 5) {
                    alike++;
                }
            }
            return alike;
        }

        int guardOn(int night, int hour) {
            return rest(night + hour, guards);
        }

        boolean isThere(int guard) {
            return (now.there >> guard & 1) == 1;
        }

        /** Whether one of a kind takes who says the word, were he there. */
        boolean wouldTake(int kind, int word, int secret, int night) {
            switch (kind) {
                case KEEN:
                    return distance(word, secret) == 0;
                case SHARP:
                    return distance(word, secret) <= 1;
                case SLEEPY:
                    return night % 2 == 0 && distance(word, secret) == 0;
                case DEAF:
                    return lips(word, secret) == LETTERS;
                case SERGEANT:
                    return lips(word, secret) >= 2;
                default:
                    return false;
            }
        }

        boolean catchesIf(int secret, int word, int hour, int night) {
            int guard = guardOn(night, hour);
            return isThere(guard) && wouldTake(kinds[guard], word, secret, night);
        }

        boolean catches(int word, int hour, int d) {
            return catchesIf(secretIn(d), word, hour, now.night + d);
        }

        int hoursOf(int guard) {
            int bits = 0;
            for (int hour = 0; hour < HOURS; hour++) {
                bits |= bit(guardOn(now.night, hour) == guard) << hour;
            }
            return bits;
        }

        int wordsIn(int hour, int d) {
            int bits = 0;
            for (int word = 0; word < words; word++) {
                bits |= bit(!catches(word, hour, d)) << word;
            }
            return bits;
        }

        int hoursOpen(int asked, int d) {
            int bits = 0;
            for (int hour = 0; hour < HOURS; hour++) {
                bits |= bit((asked & ~wordsIn(hour, d)) == 0) << hour;
            }
            return bits;
        }

        int nightsUntil(int word) {
            for (int d = 0; d <= FORESIGHT; d++) {
                if (secretIn(d) == word) {
                    return d;
                }
            }
            return NONE;
        }

        int hourIn(int word, int from) {
            for (int hour = from; hour < HOURS; hour++) {
                if (!catches(word, hour, 0)) {
                    return hour;
                }
            }
            return NONE;
        }

        /**
         * The guards to be dismissed. Every guard is on at some hour, so each that takes one of the
         * words has to go; any other would only add to the number of them, if not to the fee.
         */
        int guardsAgainst(int asked, int d) {
            int bits = 0;
            for (int hour = 0; hour < HOURS; hour++) {
                if ((asked & ~wordsIn(hour, d)) != 0) {
                    bits |= 1 << guardOn(now.night + d, hour);
                }
            }
            return bits;
        }

        int feeOf(int some) {
            int fee = 0;
            for (int guard = 0; guard < guards; guard++) {
                fee += (some >> guard & 1) * fees[guard];
            }
            return fee;
        }

        int nearestTo(int word) {
            int nearest = NONE;
            int least = LETTERS + 1;
            for (int other = 0; other < words; other++) {
                if (other != word && distance(word, other) < least) {
                    nearest = other;
                    least = distance(word, other);
                }
            }
            return nearest;
        }
    }

    /**
     * What the secret of tonight may be, and what men sent now would tell of it; a man who is sent is his
     * word and hour in one number, so that the least number is the first by words, then hours.
     */
    private static final class Guesses {
        private static final int NEVER = 1000;

        final int[] catching = new int[MOST_WORDS * HOURS];
        final int[] menFor = new int[1 << MOST_WORDS];

        static int agreeing(Gate gate) {
            int bits = 0;
            for (int secret = 0; secret < gate.words; secret++) {
                bits |= bit(agreesWithTries(gate, secret)) << secret;
            }
            return bits;
        }

        private static boolean agreesWithTries(Gate gate, int secret) {
            Moment now = gate.now;
            for (int k = 0; k < now.tries; k++) {
                int guard = now.triedGuard[k];
                boolean caught = guard >= 0 && guard < gate.guards
                        && gate.wouldTake(gate.kinds[guard], now.triedWord[k], secret, now.night);
                if (bit(caught) != now.triedTaken[k]) {
                    return false;
                }
            }
            return true;
        }

        /** The words (bits) that, were they the secret, had him taken who says a word at an hour now. */
        static int secretsCatching(Gate gate, int word, int hour) {
            int bits = 0;
            for (int secret = 0; secret < gate.words; secret++) {
                bits |= bit(gate.catchesIf(secret, word, hour, gate.now.night)) << secret;
            }
            return bits;
        }

        static int leftAtWorst(Gate gate, int sent, int among) {
            int caught = Integer.bitCount(among & secretsCatching(gate, sent / HOURS, sent % HOURS));
            return Math.max(caught, Integer.bitCount(among) - caught);
        }

        static int bestTry(Gate gate, int among) {
            int best = 0;
            int least = leftAtWorst(gate, 0, among);
            for (int sent = 1; sent < gate.words * HOURS; sent++) {
                int left = leftAtWorst(gate, sent, among);
                if (left < least) {
                    best = sent;
                    least = left;
                }
            }
            return best;
        }

        /** Sets are gone through from the least on, so that the parts of each are known ahead of it. */
        int fewestMen(Gate gate, int among) {
            int tries = gate.words * HOURS;
            for (int sent = 0; sent < tries; sent++) {
                catching[sent] = secretsCatching(gate, sent / HOURS, sent % HOURS);
            }
            for (int set = 0; set < 1 << gate.words; set++) {
                menFor[set] = Integer.bitCount(set) <= 1 ? 0 : menToSplit(set, tries);
            }
            return menFor[among] < NEVER ? menFor[among] : NONE;
        }

        private int menToSplit(int set, int tries) {
            int fewest = NEVER;
            for (int sent = 0; sent < tries; sent++) {
                int caught = set & catching[sent];
                if (caught != 0 && caught != set) {
                    fewest = Math.min(fewest, 1 + Math.max(menFor[caught], menFor[set ^ caught]));
                }
            }
            return fewest;
        }
    }

    /** The text as it comes, and the reading of it into a draft, so that a fault leaves the gate alone. */
    private static final class Tape {
        private static final int END = -1;

        final int[] bytes = new int[MOST_BYTES];
        final Gate draft = new Gate();
        int length;
        int fault;
        int place;
        private int at;
        private int value;

        boolean append(int letter) {
            if (length >= MOST_BYTES) {
                return false;
            }
            bytes[length] = letter;
            length++;
            return true;
        }

        boolean read() {
            at = 0;
            draft.words = 0;
            draft.guards = 0;
            if (!readLaw() || !readWord()) {
                return false;
            }
            for (int i = 0; i < MOST_WORDS && here() == 'w'; i++) {
                if (!readWord()) {
                    return false;
                }
            }
            if (!readGuard()) {
                return false;
            }
            for (int i = 0; i < MOST_GUARDS && here() != END; i++) {
                if (!readGuard()) {
                    return false;
                }
            }
            draft.now.begin(draft.guards);
            return true;
        }

        private boolean readLaw() {
            if (!readSign('q') || !readNumber(MOST_START)) {
                return false;
            }
            draft.now.start = value;
            if (!readSign(',') || !readNumber(MOST_STEP)) {
                return false;
            }
            draft.step = value;
            if (!readSign(',') || !readNumber(MOST_SHROVE)) {
                return false;
            }
            draft.shrove = value;
            return readSign(';');
        }

        private boolean readWord() {
            if (here() == 'w' && draft.words >= MOST_WORDS) {
                return faulty(NO_ROOM);
            }
            if (!readSign('w')) {
                return false;
            }
            for (int i = 0; i < LETTERS; i++) {
                int letter = here() - 'a';
                if (letter < 0 || letter > 25) {
                    return faulty(CANNOT_STAND);
                }
                draft.letters[draft.words * LETTERS + i] = letter;
                if (i == LETTERS - 1 && wasTold(draft.words)) {
                    return faulty(NOT_AS_TOLD);
                }
                at++;
            }
            draft.words++;
            return readSign(';');
        }

        private boolean wasTold(int word) {
            for (int other = 0; other < word; other++) {
                if (draft.distance(word, other) == 0) {
                    return true;
                }
            }
            return false;
        }

        private boolean readGuard() {
            int kind = kindOf(here());
            if (kind == NONE) {
                return faulty(CANNOT_STAND);
            }
            if (draft.guards >= MOST_GUARDS) {
                return faulty(NO_ROOM);
            }
            at++;
            if (!readNumber(MOST_FEE)) {
                return false;
            }
            draft.kinds[draft.guards] = kind;
            draft.fees[draft.guards] = value;
            draft.guards++;
            return readSign(';');
        }

        private static int kindOf(int letter) {
            switch (letter) {
                case 'k':
                    return KEEN;
                case 's':
                    return SHARP;
                case 'e':
                    return SLEEPY;
                case 'd':
                    return DEAF;
                case 'g':
                    return SERGEANT;
                default:
                    return NONE;
            }
        }

        private boolean readSign(int sign) {
            if (here() != sign) {
                return faulty(CANNOT_STAND);
            }
            at++;
            return true;
        }

        /** The whole run of figures is looked at first: one too long is no token at all. */
        private boolean readNumber(int most) {
            int figures = 0;
            value = 0;
            for (int i = at; i < length && figures < 3 && isFigure(bytes[i]); i++) {
                value = value * 10 + bytes[i] - '0';
                figures++;
            }
            if (figures == 0 || figures > 2) {
                return faulty(CANNOT_STAND);
            }
            if (value > most) {
                return faulty(NOT_AS_TOLD);
            }
            at += figures;
            return true;
        }

        private static boolean isFigure(int letter) {
            return letter >= '0' && letter <= '9';
        }

        private int here() {
            return at < length ? bytes[at] : END;
        }

        private boolean faulty(int number) {
            fault = number;
            place = at;
            return false;
        }
    }

    /** The asks of one guard, and the trace of the bodies that began. */
    private static final class Asks {
        private static final int MOST_TRACED = 16, DEEPEST = 20;
        private static final int[] NEAREST_ABOVE = {-1, ANY, KEEN, KEEN, ANY, DEAF};
        private static final int[] SIZE_BODY = {10, 11, 12, 11, 13, 14};
        private static final int[] MARK_BODY = {20, 21, 24, 22, 23, 23};

        final int[] bodies = new int[MOST_TRACED];
        int begun;
        private int number;
        private int kind;
        private int fee;
        private int took;

        static boolean isA(int kind, int asked) {
            int above = kind;
            for (int i = 0; i <= SERGEANT && above >= ANY && above <= SERGEANT; i++) {
                if (above == asked) {
                    return true;
                }
                above = NEAREST_ABOVE[above];
            }
            return false;
        }

        void turnTo(int guard, int itsKind, int itsFee, int itTook) {
            number = guard;
            kind = itsKind;
            fee = itsFee;
            took = itTook;
            begun = 0;
        }

        int answer(int what) {
            return given(this, what == 0 ? sizeBody() : markBody(), 0);
        }

        private int sizeBody() {
            return SIZE_BODY[kind >= ANY && kind <= SERGEANT ? kind : ANY];
        }

        private int markBody() {
            return MARK_BODY[kind >= ANY && kind <= SERGEANT ? kind : ANY];
        }

        private void leave(int body) {
            if (begun < MOST_TRACED) {
                bodies[begun] = body;
                begun++;
            }
        }

        /** What a body gives; what stands first in it is asked first, as the trace shows. */
        private static int given(Asks of, int body, int depth) {
            if (depth > DEEPEST) {
                return 0;
            }
            of.leave(body);
            int deeper = depth + 1;
            switch (body) {
                case 10:
                    return of.fee;
                case 11:
                    return given(of, 10, deeper) + given(of, of.markBody(), deeper);
                case 12:
                    return -given(of, 11, deeper);
                case 13:
                    return given(of, 10, deeper) - 100;
                case 14:
                    return given(of, 13, deeper) * 2;
                case 20:
                    return of.number;
                case 21:
                    return given(of, 20, deeper) + of.took;
                case 22:
                    return given(of, 21, deeper) - 1000;
                case 23:
                    return given(of, 20, deeper) - given(of, of.sizeBody(), deeper);
                case 24:
                    return given(of, 21, deeper) * 2;
                default:
                    return 0;
            }
        }
    }
}
