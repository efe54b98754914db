import java.lang.reflect.Constructor;
import java.lang.reflect.Field;
import java.lang.reflect.Method;
import java.lang.reflect.Modifier;
import java.nio.file.Files;
import java.nio.file.Path;
import java.util.Set;
import java.util.TreeSet;
import java.util.regex.Matcher;
import java.util.regex.Pattern;

/** The public face is the one that ../shared/DOC.md tells, and no member can be seen besides. */
public final class FaceTest {
    private static final Pattern METHOD = Pattern.compile("public int (\\w+)\\(((?:int \\w+(?:, )?)*)\\);");
    private static final Pattern CONSTANT = Pattern.compile("(\\w+) = (-\\d+)");
    private static final int CALLS = 39;
    private static int wrong = 0;

    private static void say(String what) {
        wrong++;
        System.out.println(what);
    }

    public static void main(String[] args) throws Exception {
        String document = Files.readString(Path.of("../shared/DOC.md"));
        int from = document.indexOf("```java");
        String face = document.substring(from, document.indexOf("```", from + 3));
        methods(face);
        constants(face);
        others();
        System.out.println(wrong == 0 ? "the face is as told" : wrong + " things are not as told");
        if (wrong != 0) {
            System.exit(1);
        }
    }

    private static void methods(String face) {
        Set<String> due = new TreeSet<>();
        Matcher told = METHOD.matcher(face);
        while (told.find()) {
            due.add(told.group(1) + " " + (told.group(2).isEmpty() ? 0 : told.group(2).split(", ").length));
        }
        if (due.size() != CALLS) {
            say("the document's face was not read: " + due);
        }
        Set<String> got = new TreeSet<>();
        for (Method m : WrongWord.class.getDeclaredMethods()) {
            if (Modifier.isPublic(m.getModifiers())) {
                got.add(m.getName() + " " + m.getParameterCount());
                ofInts(m);
            } else if (!Modifier.isPrivate(m.getModifiers())) {
                say("neither public nor private: " + m);
            }
        }
        if (!got.equals(due)) {
            say("public methods: " + got);
        }
    }

    private static void ofInts(Method m) {
        boolean ints = m.getReturnType() == int.class && !Modifier.isStatic(m.getModifiers()) && m.getExceptionTypes().length == 0;
        for (Class<?> p : m.getParameterTypes()) {
            ints &= p == int.class;
        }
        if (!ints) {
            say("not of ints, static, or with exceptions: " + m);
        }
    }

    private static void constants(String face) throws Exception {
        Set<String> due = new TreeSet<>();
        Matcher told = CONSTANT.matcher(face);
        while (told.find()) {
            due.add(told.group(1) + " " + told.group(2));
        }
        if (due.size() != 4) {
            say("the document's constants were not read: " + due);
        }
        Set<String> got = new TreeSet<>();
        for (Field f : WrongWord.class.getDeclaredFields()) {
            if (Modifier.isPublic(f.getModifiers())) {
                got.add(f.getName() + " " + f.get(null));
                if (f.getType() != int.class || !Modifier.isStatic(f.getModifiers()) || !Modifier.isFinal(f.getModifiers())) {
                    say("no constant of int: " + f);
                }
            } else if (!Modifier.isPrivate(f.getModifiers())) {
                say("neither public nor private: " + f);
            }
        }
        if (!got.equals(due)) {
            say("public constants: " + got);
        }
    }

    private static void others() {
        if (WrongWord.class.getModifiers() != (Modifier.PUBLIC | Modifier.FINAL)) {
            say("the class is not public and final alone");
        }
        if (WrongWord.class.getSuperclass() != Object.class || WrongWord.class.getInterfaces().length != 0) {
            say("the class is more than itself");
        }
        Constructor<?>[] made = WrongWord.class.getDeclaredConstructors();
        if (made.length != 1 || !Modifier.isPublic(made[0].getModifiers()) || made[0].getParameterCount() != 0) {
            say("the constructor is not as told");
        }
        for (Class<?> c : WrongWord.class.getDeclaredClasses()) {
            if (Modifier.isPublic(c.getModifiers()) || Modifier.isProtected(c.getModifiers())) {
                say("a class inside that can be seen: " + c);
            }
        }
    }
}
