import java.io.IOException;
import java.nio.charset.StandardCharsets;
import java.nio.file.Files;
import java.nio.file.Path;
import java.util.ArrayList;
import java.util.LinkedHashMap;
import java.util.List;
import java.util.Map;

/**
 * Tests that each bear the words of the document that they hold the class to. Words that do not stand in
 * their section are told as wrong, and so are words of its beginning, terms and promises that no test bears.
 */
final class Sentences {
    private final Due due;
    private final Map<String, List<String>> borne = new LinkedHashMap<>();
    private List<String> here = new ArrayList<>();
    private String heading = "";

    Sentences(Due due) {
        this.due = due;
    }

    void section(String name) {
        heading = name;
        here = borne.computeIfAbsent(name, any -> new ArrayList<>());
    }

    void hold(String words, Due.Deed test) {
        here.add(words);
        int wrongAhead = due.wrong();
        int askedAhead = due.asked();
        try {
            test.run();
        } catch (RuntimeException e) {
            due.tell("the test ends with " + e);
        }
        if (due.asked() == askedAhead) {
            due.tell("the test asks nothing");
        }
        if (due.wrong() > wrongAhead) {
            System.out.println("  that was: " + heading + " | " + words);
        }
    }

    /** The number of sentences that have a test. */
    int count() {
        return borne.values().stream().mapToInt(List::size).sum();
    }

    void compareWith(Path document) throws IOException {
        Map<String, String> sections = sectionsOf(Files.readString(document, StandardCharsets.UTF_8));
        for (Map.Entry<String, List<String>> each : borne.entrySet()) {
            String body = sections.get(each.getKey());
            if (body == null) {
                due.tell("the document has no section " + each.getKey());
                continue;
            }
            String left = without(body, each.getValue(), each.getKey());
            due.isFalse(each.getKey() + " has words that no test bears: " + left, left.matches(".*[\\p{L}\\d].*"));
        }
        for (String name : sections.keySet()) {
            boolean meant = name.equals("What it is") || name.equals("Terms") || name.startsWith("Promise");
            due.isTrue(name + " has tests", !meant || borne.containsKey(name));
        }
    }

    private String without(String body, List<String> words, String name) {
        StringBuilder left = new StringBuilder(body);
        for (String each : words) {
            int start = body.indexOf(each);
            due.is(name + " has the words: " + each, start >= 0 ? 1 : 0, 1);
            for (int i = start; start >= 0 && i < start + each.length(); i++) {
                left.setCharAt(i, ' ');
            }
        }
        return left.toString().replaceAll(" +", " ").trim();
    }

    /** Each section's text in one line, without its code fences, its parts' numbers and its method's head. */
    private static Map<String, String> sectionsOf(String document) {
        Map<String, String> sections = new LinkedHashMap<>();
        for (String part : document.split("(?m)^## ")) {
            int end = part.indexOf('\n');
            String body = end < 0 ? "" : part.substring(end).replaceAll("(?m)^```.*$", " ").replaceAll("==== \\d+\\.", " ");
            String line = body.replaceAll("\\s+", " ").trim().replaceAll("^`[^`]*`: ", "");
            sections.put(end < 0 ? part : part.substring(0, end).trim(), line);
        }
        return sections;
    }
}
