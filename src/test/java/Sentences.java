import java.util.ArrayList;
import java.util.HashMap;
import java.util.List;
import java.util.Map;
import java.util.function.Consumer;
import java.util.regex.Matcher;
import java.util.regex.Pattern;

/** The document's sentences, word by word, each with a test of its own where it names a boundary case. */
final class Sentences {
    static final int TERMS = 0;
    private static final int PROMISES = 34;
    private static final Pattern HEADING = Pattern.compile("(?m)^## (.*)$");

    /** A test is null where the words name no boundary case. */
    private record Sentence(int section, String words, Consumer<Due> test) { }

    private final List<Sentence> all = new ArrayList<>();

    void holds(int section, String words, Consumer<Due> test) {
        all.add(new Sentence(section, words, test));
    }

    void namesNoBoundary(int section, String words) {
        all.add(new Sentence(section, words, null));
    }

    int tested() {
        int sum = 0;
        for (Sentence sentence : all) {
            sum += sentence.test == null ? 0 : 1;
        }
        return sum;
    }

    void ask(Due due) {
        for (Sentence sentence : all) {
            if (sentence.test != null) {
                ask(due, sentence);
            }
        }
    }

    private static void ask(Due due, Sentence sentence) {
        due.sentence(sentence.section, sentence.words);
        int before = due.asked();
        try {
            sentence.test.accept(due);
        } catch (RuntimeException e) {
            due.isTrue("no call throws, but there was " + e, false);
        }
        due.isTrue("its test asks something", due.asked() > before);
    }

    /** Every quote stands in the document, and no words of the terms and promises are left without one. */
    void compareWith(Due due, String document) {
        Map<Integer, String> sections = sectionsOf(document);
        due.is("sections", sections.size(), PROMISES + 1);
        Map<Integer, StringBuilder> left = new HashMap<>();
        sections.forEach((section, text) -> left.put(section, new StringBuilder(text)));
        for (Sentence sentence : all) {
            due.sentence(sentence.section, sentence.words);
            String text = sections.getOrDefault(sentence.section, "");
            int at = text.indexOf(sentence.words);
            due.isTrue("the words stand in the document", at >= 0);
            for (int k = at; at >= 0 && k < at + sentence.words.length(); k++) {
                left.get(sentence.section).setCharAt(k, ' ');
            }
        }
        left.forEach((section, text) -> {
            due.sentence(section, text.toString().replaceAll("\\s+", " "));
            due.isTrue("no words are left", !Pattern.compile("[A-Za-z0-9]").matcher(text).find());
        });
    }

    private static Map<Integer, String> sectionsOf(String document) {
        Map<Integer, String> sections = new HashMap<>();
        String[] bodies = HEADING.split(document);
        Matcher headings = HEADING.matcher(document);
        for (int n = 1; headings.find() && n < bodies.length; n++) {
            String heading = headings.group(1).trim();
            String body = wordsOf(bodies[n]);
            if (heading.startsWith("Promise ")) {
                int number = Integer.parseInt(heading.substring(8, heading.indexOf(':')));
                sections.put(number, body.replaceFirst("^`[^`]*`: ", ""));
            } else if (heading.equals("What it is") || heading.equals("Terms")) {
                sections.merge(TERMS, body, (first, second) -> first + " " + second);
            }
        }
        return sections;
    }

    /** Without fences, rules between parts and lines that only tell where a part of the face begins. */
    private static String wordsOf(String body) {
        return body.replaceAll("(?m)^```.*$", "")
            .replaceAll("(?m)^Ahead of the calls .*$", "")
            .replaceAll("======== \\d", "")
            .replaceAll("\\s+", " ").trim();
    }
}
