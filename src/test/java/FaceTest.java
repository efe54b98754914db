import java.lang.reflect.Constructor;
import java.lang.reflect.Field;
import java.lang.reflect.Method;
import java.lang.reflect.Modifier;
import java.nio.file.Files;
import java.nio.file.Path;
import java.util.Set;
import java.util.TreeSet;
import java.util.regex.Matcher;
import java.util.regex.Pattern;

/** The public face is the document's, and the source keeps to what can be seen of LANGUAGE.md by its words. */
public final class FaceTest {
    private static final String[] METHODS = {
        "row 3", "set 3", "copy 5", "drop 1", "feed 1", "gate 0", "fault 0", "nights 1", "say 2", "start 1", "dismiss 2",
        "undo 0", "letter 2", "like 3", "guard 2", "tried 2", "secret 1", "taken 3", "safe 2", "open 2", "next 1",
        "agree 0", "man 1", "fewest 0", "march 4", "cheap 3", "near 2", "rules 4", "fits 4", "sure 4", "drawn 3",
        "image 1", "restore 1", "kind 1", "as 2", "ask 2", "trace 1", "count 1", "status 0"};
    private static final String[] FORBIDDEN = {
        "throw", "throws", "try", "catch", "finally", "synchronized", "assert", "import", "package", "hashCode",
        "volatile", "native", "protected", "transient", "System.out", "System.nano", "System.current", "Random", "Thread",
        "Object", "toString", "yield", "var", "Exact", "Override"};
    private static int wrong = 0;

    private static void say(String what) {
        wrong++;
        System.out.println(what);
    }

    public static void main(String[] args) throws Exception {
        methods();
        members();
        nested();
        source();
        System.out.println(wrong == 0 ? "the face is as told" : wrong + " things are not as told");
        if (wrong != 0) {
            System.exit(1);
        }
    }

    private static void methods() {
        Set<String> due = new TreeSet<>();
        for (String m : METHODS) {
            due.add(m);
        }
        Set<String> names = new TreeSet<>();
        for (String m : METHODS) {
            names.add(m.substring(0, m.indexOf(' ')));
        }
        Set<String> got = new TreeSet<>();
        for (Method m : WrongWord.class.getDeclaredMethods()) {
            int mods = m.getModifiers();
            if (Modifier.isPublic(mods)) {
                got.add(m.getName() + " " + m.getParameterCount());
                boolean ints = m.getReturnType() == int.class && !Modifier.isStatic(mods);
                for (Class<?> p : m.getParameterTypes()) {
                    ints &= p == int.class;
                }
                if (!ints) {
                    say("not of ints, or static: " + m);
                }
            } else if (!Modifier.isPrivate(mods)) {
                say("neither public nor private: " + m);
            } else if (names.contains(m.getName())) {
                say("a private method with a public one's name: " + m);
            }
        }
        if (!got.equals(due)) {
            say("public methods: " + got);
        }
    }

    private static void members() {
        if (WrongWord.class.getModifiers() != (Modifier.PUBLIC | Modifier.FINAL)) {
            say("the class is not public and final alone");
        }
        Constructor<?>[] made = WrongWord.class.getDeclaredConstructors();
        if (made.length != 1 || !Modifier.isPublic(made[0].getModifiers()) || made[0].getParameterCount() != 0) {
            say("the constructor is not as told");
        }
        Set<String> constants = new TreeSet<>();
        for (Field f : WrongWord.class.getDeclaredFields()) {
            if (Modifier.isPublic(f.getModifiers())) {
                constants.add(f.getName());
            } else if (!Modifier.isPrivate(f.getModifiers())) {
                say("neither public nor private: " + f);
            }
            if (Modifier.isStatic(f.getModifiers()) && !Modifier.isFinal(f.getModifiers())) {
                say("static, but not final: " + f);
            }
        }
        if (!constants.equals(Set.of("NONE", "BAD", "STATE", "FULL"))) {
            say("public constants: " + constants);
        }
    }

    private static void nested() {
        Class<?>[] inside = WrongWord.class.getDeclaredClasses();
        if (inside.length > 11) {
            say("more than some twelve classes");
        }
        for (Class<?> c : inside) {
            if (!Modifier.isStatic(c.getModifiers()) || Modifier.isPublic(c.getModifiers())) {
                say("not static, or public: " + c);
            }
            int own = 0;
            for (Field f : c.getDeclaredFields()) {
                own += Modifier.isStatic(f.getModifiers()) ? 0 : 1;
                if (Modifier.isStatic(f.getModifiers()) && !Modifier.isFinal(f.getModifiers())) {
                    say("static, but not final: " + f);
                }
            }
            if (own > 20) {
                say("more than some twenty fields: " + c);
            }
            for (Method m : c.getDeclaredMethods()) {
                if (m.getParameterCount() > 7) {
                    say("more than seven parameters: " + m);
                }
            }
        }
    }

    private static void source() throws Exception {
        String text = Files.readString(Path.of("src/main/java/WrongWord.java"));
        String bare = Pattern.compile("/\\*.*?\\*/|//[^\n]*", Pattern.DOTALL).matcher(text).replaceAll(" ");
        for (String word : FORBIDDEN) {
            Matcher m = Pattern.compile("\\b" + Pattern.quote(word) + "\\b").matcher(bare);
            if (m.find()) {
                say("the source has " + word);
            }
        }
        if (bare.contains("->") || bare.contains("::") || bare.contains("\"")) {
            say("the source has a lambda, a method reference or a text");
        }
        for (int i = 0; i < text.length(); i++) {
            if (text.charAt(i) > 127) {
                say("a sign above 127 at " + i);
                break;
            }
        }
    }
}
