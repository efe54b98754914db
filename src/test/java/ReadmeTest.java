import java.nio.file.Files;
import java.nio.file.Path;
import java.util.Set;
import java.util.TreeSet;
import java.util.regex.Matcher;
import java.util.regex.Pattern;

/** Every call that README.md shows, in its order on one object, answers what stands behind it there. */
public final class ReadmeTest {
    private static final Pattern CALL = Pattern.compile("x\\.(\\w+\\([-0-9, ]*\\)); *// (-?\\d+)(: .*)?");
    private static final Pattern TEXT = Pattern.compile("String text = \"(.*)\";");
    /** The lines by which a text is fed; what they do is done at the line that tells the text. */
    private static final Set<String> FEEDING = Set.of(
        "for (int i = 0; i < text.length(); i++) {", "x.feed(text.charAt(i));", "}", "WrongWord x = new WrongWord();");

    private static final Calls x = Calls.ofClass();
    private static final Set<String> shown = new TreeSet<>();
    private static int wrong = 0;

    private static void say(String what) {
        wrong++;
        System.out.println(what);
    }

    public static void main(String[] args) throws Exception {
        boolean code = false;
        for (String line : Files.readAllLines(Path.of("README.md"))) {
            if (line.startsWith("```")) {
                code = line.equals("```java");
            } else if (code) {
                check(line.strip());
            }
        }
        if (shown.isEmpty() || x.made() > 512) {
            say("README.md makes " + x.made() + " calls");
        }
        System.out.println(wrong == 0 ? x.made() + " calls answer as README.md says" : wrong + " lines of README.md are wrong");
        if (wrong != 0) {
            System.exit(1);
        }
    }

    private static void check(String line) {
        Matcher call = CALL.matcher(line);
        Matcher text = TEXT.matcher(line);
        if (call.matches()) {
            int got = x.answer(call.group(1));
            shown.add(call.group(1));
            if (got != Integer.parseInt(call.group(2))) {
                say(line + " -- answered " + got);
            }
        } else if (text.matches()) {
            x.then("tape " + text.group(1));
        } else if (!FEEDING.contains(line)) {
            say("neither a call with its answer nor the feeding of a text: " + line);
        }
    }
}
