import java.lang.reflect.Array;
import java.lang.reflect.Field;
import java.lang.reflect.Modifier;
import java.nio.file.Files;
import java.nio.file.Path;
import java.util.ArrayDeque;
import java.util.Collections;
import java.util.Deque;
import java.util.IdentityHashMap;
import java.util.List;
import java.util.Set;

/**
 * The class keeps to what can be seen of ../shared/LANGUAGE.md in its source, and each rule that is looked for is
 * looked for in earnest: a little class that breaks it has to be refused by its number.
 */
public final class LanguageTest {
    private static final String BARE = "public final class WrongWord { # }";
    /** The number of a rule, then members that break it. */
    private static final String[] BREAKING = {
        "1 int seen() { return 0; }",
        "1 protected int seen() { return 0; }",
        "1 int field;",
        "1 public static class Seen { }",
        "1 public int a() { return 0; } private static int a(int i) { return i; }",
        "1 public int a() { return 0; } private static final class B { private int a() { return 0; } }",
        "2 private final class Inner { }",
        "2 private static class A { } private A a = new A() { };",
        "2 private interface F { int f(int i); } private F f = i -> i;",
        "2 private interface F { int f(int i); } private F f = Math::abs;",
        "3 private Object o;",
        "3 private java.util.HashMap<Integer, Integer> m;",
        "4 private int a(String s) { return s.hashCode(); }",
        "4 private long a() { return System.nanoTime(); }",
        "4 private int a() { return Math.addExact(1, 2); }",
        "5 private static int a = 1;",
        "5 private static final int[] A = new int[3];",
        "5 static { }",
        "5 private static final int[] A = {1}; private void a() { A[0] = 2; }",
        "6 private void a() { throw new IllegalStateException(); }",
        "6 private void a() { try { a(); } finally { } }",
        "6 private void a() { synchronized (this) { } }",
        "6 private void a() { assert true; }",
        "6 private static final class B { public int hashCode() { return 1; } }",
        "6 private static class B { } private static class C extends B { } private C a(B b) { return (C) b; }",
        "7 private int a(int i) { return 1 / i; }",
        "7 private int a(int i) { return 1 % (i + 1); }",
        "7 private int a(int i) { i /= i; return i; }",
        "7 private int a(int i) { return i / 0; }",
        "8 private int a(int i) { return a(i); }",
        "8 private int a(int i, int depth) { return a(i, depth + 1); }",
        "9 private void a() { for (;;) { } }",
        "9 private void a(int i) { for (; i < 3;) { } }",
        "9 private void a(int i) { while (i < 3) { } }",
        "9 private void a(int i) { do { } while (i < 3); }",
        "11 private void a(int a, int b, int c, int d, int e, int f, int g, int h) { }",
        "11 private void a() { " + "\n".repeat(60) + " }",
        "11 private int " + "abcdefghijklmnopqrstu".replaceAll("(.)(?=.)", "$1, ") + ";",
        "11 " + chain(9),
        "11 private void a() { b(); } private void b() { a(); }",
        "11 " + "private static class A# { } ".repeat(12),
        "12 private int[] a() { return new int[1]; }",
        "12 private static class B { } private B a() { return new B(); }",
    };
    private static final String[] KEEPING = {
        "public int a(int i) { return i > 0 ? 5 / i : 5 % 3; }",
        "private static int a(int i, int depth) { if (depth > 9) { return 0; } return a(i, depth + 1); }",
        chain(8),
        "private static final int A = 3; private static final int[] B = {1, A}; private int a() { return B[1] / A; }",
        "private static class B { int[] c = new int[3]; } private B[] d = new B[2]; public WrongWord() { d[0] = new B(); }",
    };

    /** A run has room for 600,000 objects with 7.3 million fields and elements: so a thousand of these are no trouble. */
    private static final int MOST_OBJECTS = 300, MOST_FIELDS = 3000;
    private static int wrong = 0;

    /** Methods that call one another, so many deep. */
    private static String chain(int deep) {
        StringBuilder all = new StringBuilder();
        for (int i = 1; i < deep; i++) {
            all.append("private void m").append(i).append("() { m").append(i + 1).append("(); } ");
        }
        return all.append("private void m").append(deep).append("() { }").toString();
    }

    private static void say(String what) {
        wrong++;
        System.out.println(what);
    }

    private static String bare(String members) {
        String all = members;
        for (int i = 0; all.contains("#"); i++) {
            all = all.replaceFirst("#", "" + i);
        }
        return BARE.replace("#", all);
    }

    public static void main(String[] args) throws Exception {
        for (String told : BREAKING) {
            String rule = told.substring(0, told.indexOf(' ') + 1);
            List<String> broken = Language.brokenBy(bare(told.substring(rule.length())));
            if (broken.stream().noneMatch(b -> b.startsWith(rule))) {
                say("not seen to break rule " + told + ": " + broken);
            }
        }
        for (String members : KEEPING) {
            List<String> broken = Language.brokenBy(bare(members));
            if (!broken.isEmpty()) {
                say("said to break a rule: " + members + ": " + broken);
            }
        }
        String source = Files.readString(Path.of("src/main/java/WrongWord.java"));
        for (String broken : Language.brokenBy(source)) {
            say("rule " + broken);
        }
        if (source.chars().anyMatch(c -> c > 127)) {
            say("rule 4 a sign above 127");
        }
        room();
        System.out.println(wrong == 0 ? "the class keeps to the language" : wrong + " things are not as told");
        if (wrong != 0) {
            System.exit(1);
        }
    }

    private static void room() throws Exception {
        WrongWord x = new WrongWord();
        int[] first = roomOf(x);
        for (char letter : "q1,2,3;wabc;wabd;wfgh;k3;s5;".toCharArray()) {
            x.feed(letter);
        }
        x.gate();
        x.row(0, 0, 40);
        for (int i = 0; i < 100; i++) {
            x.nights(1);
            x.say(1, 0);
            x.image(i % 2);
        }
        int[] later = roomOf(x);
        if (first[0] > MOST_OBJECTS || first[1] > MOST_FIELDS || first[0] != later[0] || first[1] != later[1]) {
            say("rule 12 room: " + first[0] + " objects with " + first[1] + " fields at first, then " + later[0] + ", " + later[1]);
        }
    }

    /** How many objects and arrays an object holds, itself being one, and how many fields and elements these have. */
    private static int[] roomOf(Object start) throws Exception {
        Set<Object> seen = Collections.newSetFromMap(new IdentityHashMap<>());
        Deque<Object> open = new ArrayDeque<>(List.of(start));
        int fields = 0;
        while (!open.isEmpty()) {
            Object it = open.pop();
            if (!seen.add(it)) {
                continue;
            }
            if (it.getClass().isArray()) {
                fields += Array.getLength(it);
                for (int i = 0; it instanceof Object[] && i < Array.getLength(it); i++) {
                    open.push(Array.get(it, i));
                }
                continue;
            }
            for (Field f : it.getClass().getDeclaredFields()) {
                if (!Modifier.isStatic(f.getModifiers())) {
                    fields++;
                    f.setAccessible(true);
                    if (!f.getType().isPrimitive()) {
                        open.push(f.get(it));
                    }
                }
            }
        }
        return new int[] {seen.size(), fields};
    }
}
