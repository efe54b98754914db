import java.lang.reflect.Method;
import java.lang.reflect.Modifier;
import java.util.ArrayList;
import java.util.Arrays;
import java.util.HashMap;
import java.util.List;
import java.util.Map;
import java.util.Random;

/** Long runs of drawn calls, the same ones every time, on the class and on the model; every answer must be the same. */
public final class AgainstModelTest {
    private static final int RUNS = 1000, CALLS = 512;
    private static final int[] WILD = {-1, -2, 7, 8, 10, 40, 41, 61, 255, 256, 1000000, Integer.MAX_VALUE, Integer.MIN_VALUE};
    private static final String[] NAMES = {
        "row", "set", "copy", "drop", "feed", "gate", "fault", "nights", "say", "start", "dismiss", "undo", "letter", "like",
        "guard", "tried", "secret", "taken", "safe", "open", "next", "agree", "man", "fewest", "march", "cheap", "near",
        "rules", "fits", "sure", "drawn", "image", "restore", "kind", "as", "ask", "trace", "count", "status"};
    /** How many of each call there are by the hundred, about. */
    private static final int[] WEIGHTS = {
        2, 8, 3, 1, 1, 1, 1, 3, 10, 3, 4, 4, 1, 2,
        4, 3, 3, 3, 3, 3, 3, 4, 5, 3, 6, 4, 2,
        6, 6, 5, 2, 1, 1, 1, 2, 4, 4, 5, 3};

    private static final Map<String, Method> OF_CLASS = methodsOf(WrongWord.class), OF_MODEL = methodsOf(Model.class);

    private final Random random;
    private final WrongWord x = new WrongWord();
    private final Model model = new Model();
    private final List<String> calls = new ArrayList<>();
    private boolean wrong = false;

    private AgainstModelTest(long seed) {
        random = new Random(seed);
    }

    private int upTo(int most) {
        return random.nextInt(40) == 0 ? WILD[random.nextInt(WILD.length)] : random.nextInt(most + 1);
    }

    private int row() {
        return random.nextInt(30) == 0 ? upTo(8) : random.nextInt(3);
    }

    private int from() {
        return random.nextInt(2) == 0 ? 0 : upTo(20);
    }

    private int word() {
        return random.nextInt(10) == 0 ? upTo(6) : random.nextInt(Math.max(1, model.count(1)));
    }

    private int guard() {
        return random.nextInt(10) == 0 ? upTo(4) : random.nextInt(Math.max(1, model.count(2)));
    }

    private int[] args(String name) {
        switch (name) {
            case "row": return new int[] {row(), random.nextInt(20) == 0 ? upTo(3) : random.nextInt(3), 40 - upTo(30)};
            case "set": return new int[] {row(), upTo(20), random.nextInt(5) == 0 ? random.nextInt() : random.nextInt(6)};
            case "copy": return new int[] {row(), from(), row(), from(), upTo(12)};
            case "feed": return new int[] {random.nextInt(3) == 0 ? upTo(256) : "q1,;wkab0".charAt(random.nextInt(9))};
            case "nights": return new int[] {random.nextInt(12) == 0 ? upTo(25) : 1 + random.nextInt(3)};
            case "say": return new int[] {word(), upTo(5)};
            case "start": return new int[] {upTo(10)};
            case "dismiss": return new int[] {guard(), random.nextInt(20) == 0 ? upTo(2) : random.nextInt(2)};
            case "letter": return new int[] {word(), upTo(3)};
            case "like": return new int[] {word(), word(), upTo(1)};
            case "guard": return new int[] {guard(), upTo(3)};
            case "tried": return new int[] {upTo(4), upTo(2)};
            case "secret": return new int[] {upTo(60)};
            case "taken": return new int[] {word(), upTo(5), upTo(60)};
            case "safe": return new int[] {upTo(5), upTo(60)};
            case "open": return new int[] {upTo((1 << model.count(1)) - 1), upTo(60)};
            case "next": return new int[] {word()};
            case "man": return new int[] {upTo(2)};
            case "march": int men = upTo(6);
                return new int[] {row(), from(), men, Math.max(-2, men) < 1 ? -1 : random.nextInt(Math.min(men, 9) + 1) - 1};
            case "cheap": return new int[] {upTo((1 << model.count(1)) - 1), upTo(60), upTo(1)};
            case "near": return new int[] {word(), upTo(1)};
            case "rules": return new int[] {row(), from(), random.nextInt(3) == 0 ? upTo(17) : 1 + random.nextInt(3), upTo(2)};
            case "fits": return new int[] {guard(), row(), from(), upTo(1)};
            case "sure": return new int[] {word(), upTo(5), upTo(10), upTo(1)};
            case "drawn": return new int[] {upTo(60), upTo(999999), upTo(1)};
            case "as": return new int[] {guard(), upTo(5)};
            case "ask": return new int[] {guard(), upTo(1)};
            case "trace": return new int[] {upTo(7)};
            case "count": return new int[] {upTo(9)};
            case "drop": return new int[] {row()};
            case "image": case "restore": return new int[] {upTo(1)};
            case "kind": return new int[] {guard()};
            default: return new int[0];
        }
    }

    private static Map<String, Method> methodsOf(Class<?> type) {
        Map<String, Method> all = new HashMap<>();
        for (String name : NAMES) {
            for (Method m : type.getDeclaredMethods()) {
                if (m.getName().equals(name) && !Modifier.isPrivate(m.getModifiers())) {
                    all.put(name, m);
                }
            }
        }
        return all;
    }

    private static int call(Map<String, Method> methods, Object on, String name, int[] args) {
        Object[] boxed = new Object[args.length];
        for (int i = 0; i < args.length; i++) {
            boxed[i] = args[i];
        }
        try {
            return (int) methods.get(name).invoke(on, boxed);
        } catch (ReflectiveOperationException e) {
            throw new IllegalStateException(name + Arrays.toString(args), e);
        }
    }

    private int make(String name, int... args) {
        StringBuilder told = new StringBuilder(name).append('(');
        for (int i = 0; i < args.length; i++) {
            told.append(i == 0 ? "" : ", ").append(args[i]);
        }
        int got = call(OF_CLASS, x, name, args);
        int want = call(OF_MODEL, model, name, args);
        calls.add(told + ") = " + got);
        if (got != want && !wrong) {
            wrong = true;
            calls.set(calls.size() - 1, told + ") answered " + got + ", the model " + want);
        }
        return want;
    }

    private String text() {
        StringBuilder text = new StringBuilder("q");
        text.append(random.nextInt(10)).append(',').append(random.nextInt(10)).append(',').append(random.nextInt(7)).append(';');
        int letters = 2 + random.nextInt(12);
        for (int i = random.nextInt(6); i >= 0; i--) {
            text.append('w');
            for (int j = 0; j < 3; j++) {
                text.append((char) ('a' + random.nextInt(letters)));
            }
            text.append(';');
        }
        for (int i = random.nextInt(4); i >= 0; i--) {
            text.append("ksedg".charAt(random.nextInt(5))).append(random.nextInt(10)).append(';');
        }
        for (int i = random.nextInt(8); i < 2; i++) {
            int at = random.nextInt(text.length());
            char other = "q019,;wkgaz A".charAt(random.nextInt(13));
            switch (random.nextInt(4)) {
                case 0: text.setCharAt(at, other); break;
                case 1: text.insert(at, other); break;
                case 2: text.deleteCharAt(at); break;
                default: text.setLength(at); break;
            }
            if (text.length() == 0) {
                text.append('q');
            }
        }
        return text.toString();
    }

    private void gate() {
        for (char c : text().toCharArray()) {
            make("feed", c);
        }
        make("gate");
    }

    /** A row as a gate would tell it, here and there with an item that is not so. */
    private void tell(int row) {
        int n = 12 + random.nextInt(9);
        make("row", row, random.nextInt(3), n);
        boolean secrets = random.nextBoolean();
        int hour = random.nextInt(6);
        for (int i = 0; i < n; i++) {
            int item = secrets ? model.secret(i) : model.taken(i % Math.max(1, model.count(1)), hour, 0);
            make("set", row, i, random.nextInt(30) == 0 ? random.nextInt(7) : item);
        }
    }

    private boolean run() {
        int weight = 0;
        for (int w : WEIGHTS) {
            weight += w;
        }
        gate();
        while (calls.size() < CALLS - 60 && !wrong) {
            int drawn = random.nextInt(weight + 2);
            if (drawn >= weight) {
                if (random.nextInt(5) == 0) {
                    gate();
                } else {
                    tell(random.nextInt(3));
                }
                continue;
            }
            int at = 0;
            while (drawn >= WEIGHTS[at]) {
                drawn -= WEIGHTS[at];
                at++;
            }
            make(NAMES[at], args(NAMES[at]));
        }
        return !wrong;
    }

    public static void main(String[] args) {
        for (int run = 0; run < RUNS; run++) {
            AgainstModelTest test = new AgainstModelTest(run);
            if (!test.run()) {
                System.out.println("run " + run + ":");
                for (String call : test.calls) {
                    System.out.println("  " + call);
                }
                System.exit(1);
            }
        }
        System.out.println(RUNS + " runs answered as the model does");
    }
}
