import java.util.ArrayList;
import java.util.LinkedHashMap;
import java.util.List;
import java.util.Map;

/** The document's sentences, section by section. */
public final class Sentences {
    private static final String SECTION = "\n## ";

    private Sentences() {
    }

    /** The texts of "Terms" and of each promise, such as "Promise 4: post", with single blanks alone. */
    public static Map<String, String> sections(String document) {
        Map<String, String> sections = new LinkedHashMap<>();
        for (String part : document.split(SECTION)) {
            int end = part.indexOf('\n');
            String title = end < 0 ? part : part.substring(0, end);
            if (title.equals("Terms") || title.startsWith("Promise ")) {
                sections.put(title, plain(part.substring(end + 1)));
            }
        }
        return sections;
    }

    private static String plain(String text) {
        return text.replaceAll("\\s+", " ").strip();
    }

    /** The sentences that must have a run: all of the terms, and of a promise those with limits and exceptions. */
    public static List<String> due(String section, String text) {
        List<String> due = new ArrayList<>();
        if (section.equals("Terms")) {
            String terms = text.substring(text.indexOf("Accounts. There are"));
            for (String clause : terms.split("(?<=\\.) (?=[A-Z\"])|(?<=;) ")) {
                if (clause.contains(" ")) {
                    due.add(clause);
                }
            }
            return due;
        }
        for (String sentence : text.split("(?= Throws `)|(?= - `)|(?= Returns )")) {
            boolean namesLimit = sentence.matches(".* \\d+ to \\d+.*|.*counted from 0.*|.*at least.*|.*can be negative.*");
            if (namesLimit || sentence.startsWith(" Throws")) {
                due.add(sentence.strip());
            }
        }
        due.add(text);
        return due;
    }
}
