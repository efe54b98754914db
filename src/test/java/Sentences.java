import java.io.IOException;
import java.nio.file.Files;
import java.nio.file.Path;
import java.util.ArrayList;
import java.util.List;
import java.util.Map;
import java.util.TreeMap;
import java.util.regex.Matcher;
import java.util.regex.Pattern;

/**
 * The sentences of the document under which the checks stand. At the end each has to stand in the document word by
 * word, to have had a check, and all of the document's terms and promises has to be told by some sentence: so none
 * is overlooked.
 */
final class Sentences {
    private record Sentence(int section, String words) { }

    private static final int TERMS = 0, PROMISES = 40;
    private static final Path DOCUMENT = Path.of("../shared/DOC.md");

    private static final List<Sentence> TOLD = new ArrayList<>();
    private static Sentence now = new Sentence(TERMS, "");
    private static int checksOfNow = 1;
    private static int checks = 0;
    private static int wrong = 0;

    private Sentences() {
    }

    /** What is checked from here on is what these words of a promise (0: of the terms) say. */
    static void begin(int section, String words) {
        endOfNow();
        now = new Sentence(section, words);
        TOLD.add(now);
        checksOfNow = 0;
    }

    static void checked() {
        checksOfNow++;
        checks++;
    }

    static void wrong(String what) {
        wrong++;
        System.out.println((now.section == TERMS ? "terms" : "promise " + now.section) + ", \"" + now.words + "\": " + what);
    }

    static int wrongs() {
        return wrong;
    }

    private static void endOfNow() {
        if (checksOfNow == 0) {
            wrong("nothing is checked");
        }
    }

    /** How many things were wrong, those told by now. */
    static int end() throws IOException {
        endOfNow();
        if (Files.exists(DOCUMENT)) {
            allIsTold(sections(Files.readString(DOCUMENT)));
        } else {
            System.out.println("no document stands at " + DOCUMENT + ": the sentences are not held against it");
        }
        System.out.println(checks + " checks under " + TOLD.size() + " sentences, " + wrong + " wrong");
        return wrong;
    }

    private static Map<Integer, String> sections(String document) {
        Map<Integer, String> all = new TreeMap<>();
        for (String section : document.split("\n## ")) {
            Matcher promise = Pattern.compile("Promise (\\d+): .*?`.*?`: (.*)", Pattern.DOTALL).matcher(section);
            if (section.startsWith("Terms")) {
                String terms = section.substring("Terms".length(), section.indexOf("Ahead of the calls"));
                all.put(TERMS, plain(terms.replace("```text", " ").replace("```", " ").replace("=", " ")));
            } else if (promise.matches()) {
                all.put(Integer.parseInt(promise.group(1)), plain(promise.group(2)));
            }
        }
        return all;
    }

    private static String plain(String text) {
        return text.replaceAll("\\s+", " ").trim();
    }

    private static void allIsTold(Map<Integer, String> sections) {
        for (int section = TERMS; section <= PROMISES; section++) {
            String text = sections.getOrDefault(section, "");
            boolean[] told = new boolean[text.length()];
            for (Sentence sentence : TOLD) {
                if (sentence.section == section) {
                    mark(text, sentence, told);
                }
            }
            StringBuilder left = new StringBuilder();
            for (int i = 0; i < told.length; i++) {
                left.append(told[i] || !Character.isLetterOrDigit(text.charAt(i)) ? ' ' : text.charAt(i));
            }
            now = new Sentence(section, text);
            if (text.isEmpty() || !left.toString().isBlank()) {
                wrong("no test tells of: " + plain(left.toString()));
            }
        }
    }

    private static void mark(String text, Sentence sentence, boolean[] told) {
        int at = text.indexOf(sentence.words);
        if (at < 0) {
            now = sentence;
            wrong("the document does not say so");
        }
        while (at >= 0) {
            for (int i = 0; i < sentence.words.length(); i++) {
                told[at + i] = true;
            }
            at = text.indexOf(sentence.words, at + 1);
        }
    }
}
