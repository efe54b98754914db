import java.lang.reflect.Method;
import java.lang.reflect.Modifier;
import java.util.ArrayList;
import java.util.Collections;
import java.util.HashMap;
import java.util.List;
import java.util.Map;

/**
 * An object whose calls are told as texts, so that a run of calls can be made again on another one. They are
 * counted: nothing is promised of an object beyond its 512th call, so no test may lean on more.
 *
 * <p>Besides a call, "say(1, 0)", a text may be "read q0,0,0;waaa;k0;" (fed byte by byte, then gate()), "tape q0" (fed
 * alone), "fill 2 0 5 6" (row 2 of lane 0 with items 5, 6), or "9 * say(1, 0)".
 */
final class Calls {
    private static final int MOST = 512, STATE = -1000002;
    private static final Map<String, Method> OF_CLASS = methodsOf(WrongWord.class), OF_MODEL = methodsOf(Model.class);
    /** At this gate a row's item 0 to 5 can be seen on night 0: it is the least START by which it is the secret. */
    private static final String SHOWS_ITEMS = "read q0,0,6;waaa;wbbb;wccc;wddd;weee;wfff;k1;";

    private final Object on;
    private final Map<String, Method> methods;
    private int made = 0;

    private Calls(Object on, Map<String, Method> methods) {
        this.on = on;
        this.methods = methods;
    }

    static Calls ofClass() {
        return new Calls(new WrongWord(), OF_CLASS);
    }

    static Calls ofModel() {
        return new Calls(new Model(), OF_MODEL);
    }

    static List<String> names() {
        List<String> all = new ArrayList<>(OF_CLASS.keySet());
        Collections.sort(all);
        return all;
    }

    static int parametersOf(String name) {
        return OF_CLASS.get(name).getParameterCount();
    }

    private static Map<String, Method> methodsOf(Class<?> type) {
        Map<String, Method> all = new HashMap<>();
        for (Method face : WrongWord.class.getDeclaredMethods()) {
            for (Method m : type.getDeclaredMethods()) {
                if (Modifier.isPublic(face.getModifiers()) && m.getName().equals(face.getName())
                        && !Modifier.isPrivate(m.getModifiers())) {
                    all.put(m.getName(), m);
                }
            }
        }
        return all;
    }

    int made() {
        return made;
    }

    Calls then(String... texts) {
        for (String text : texts) {
            make(text);
        }
        return this;
    }

    private void make(String text) {
        String rest = text.substring(text.indexOf(' ') + 1);
        if (text.startsWith("read ")) {
            make("tape " + rest);
            make("gate()");
        } else if (text.startsWith("tape ")) {
            for (char letter : rest.toCharArray()) {
                answer("feed", letter);
            }
        } else if (text.startsWith("fill ")) {
            fill(rest.split(" "));
        } else if (rest.startsWith("* ")) {
            for (int i = Integer.parseInt(text.substring(0, text.indexOf(' '))); i > 0; i--) {
                make(rest.substring(2));
            }
        } else {
            answer(text);
        }
    }

    private void fill(String[] told) {
        int row = Integer.parseInt(told[0]);
        answer("row", row, Integer.parseInt(told[1]), told.length - 2);
        for (int i = 2; i < told.length; i++) {
            answer("set", row, i - 2, Integer.parseInt(told[i]));
        }
    }

    int answer(String call) {
        int open = call.indexOf('(');
        String inside = call.substring(open + 1, call.length() - 1);
        String[] told = inside.isEmpty() ? new String[0] : inside.split(", ");
        int[] args = new int[told.length];
        for (int i = 0; i < told.length; i++) {
            args[i] = told[i].equals("MIN") ? Integer.MIN_VALUE : told[i].equals("MAX") ? Integer.MAX_VALUE
                : Integer.parseInt(told[i]);
        }
        return answer(call.substring(0, open), args);
    }

    int answer(String name, int... args) {
        made++;
        if (made == MOST + 1) {
            Sentences.wrong("leans on a call beyond the 512th: " + name);
        }
        Object[] boxed = new Object[args.length];
        for (int i = 0; i < args.length; i++) {
            boxed[i] = args[i];
        }
        try {
            return (int) methods.get(name).invoke(on, boxed);
        } catch (ReflectiveOperationException e) {
            throw new IllegalStateException(name + " with " + java.util.Arrays.toString(args), e);
        }
    }

    /** Makes a call, and says so if the answer is not the one that is due. */
    Calls due(String call, int want) {
        int got = answer(call);
        Sentences.checked();
        if (got != want) {
            Sentences.wrong(call + " answered " + got + ", due is " + want);
        }
        return this;
    }

    private void note(List<String> seen, String call) {
        seen.add(call + " = " + answer(call));
    }

    /** All that can be seen, but for status() and fault(); behind it little is left as it was. */
    List<String> view() {
        List<String> seen = standing();
        seen.addAll(acts());
        seen.addAll(images());
        seen.addAll(tapeAndRows());
        return seen;
    }

    /** The gate as it stands, how many acts there are left out; nothing changes by looking. */
    List<String> standing() {
        List<String> seen = new ArrayList<>();
        for (int what = 0; what < 10; what++) {
            if (what != 6) {
                note(seen, "count(" + what + ")");
            }
        }
        for (int i = 0; i < 7; i++) {
            note(seen, "trace(" + i + ")");
            note(seen, "secret(" + i + ")");
        }
        for (int guard = 0; guard < 4; guard++) {
            note(seen, "kind(" + guard + ")");
            for (int what = 0; what < 4; what++) {
                note(seen, "guard(" + guard + ", " + what + ")");
            }
        }
        for (int i = 0; i < 18; i++) {
            note(seen, "letter(" + i / 3 + ", " + i % 3 + ")");
        }
        for (int i = 0; i < 27; i++) {
            note(seen, "tried(" + i / 3 + ", " + i % 3 + ")");
        }
        note(seen, "agree()");
        return seen;
    }

    private List<String> acts() {
        List<String> seen = new ArrayList<>();
        note(seen, "count(6)");
        for (int left = answer("undo()"); left != STATE; left = answer("undo()")) {
            seen.add("undo() = " + left);
            for (int what : new int[] {3, 4, 5, 8, 9}) {
                note(seen, "count(" + what + ")");
            }
        }
        return seen;
    }

    private List<String> images() {
        List<String> seen = new ArrayList<>();
        for (int k = 0; k < 2; k++) {
            int kept = answer("restore", k);
            seen.add("restore(" + k + ") = " + kept);
            for (int what = 1; what < 10 && kept == 1; what++) {
                note(seen, "count(" + what + ")");
            }
        }
        return seen;
    }

    private List<String> tapeAndRows() {
        List<String> seen = new ArrayList<>();
        note(seen, "gate()");
        make(SHOWS_ITEMS);
        for (int row = 0; row < 8; row++) {
            for (int i = 0; i < 3; i++) {
                note(seen, "rules(" + row + ", " + i + ", 1, 0)");
            }
            // By what is left of this number it can be told how many bits the lane has.
            note(seen, "set(" + row + ", 0, 70000)");
            note(seen, "drop(" + row + ")");
        }
        return seen;
    }
}
