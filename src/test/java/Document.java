import java.io.IOException;
import java.nio.file.Files;
import java.nio.file.Path;
import java.util.Arrays;
import java.util.LinkedHashMap;
import java.util.Map;

/** The sentences of ../shared/DOC.md, each asked by a test of its own; what no test asks is told. */
final class Document extends Asking {
    private static final String TERMS = "Terms";

    private final Map<String, String> sections = new LinkedHashMap<>();
    private final Map<String, boolean[]> asked = new LinkedHashMap<>();
    private int sentences = 0;

    Document(Path file) throws IOException {
        String name = "";
        StringBuilder body = new StringBuilder();
        for (String line : Files.readAllLines(file)) {
            if (line.startsWith("## ")) {
                put(name, body);
                name = line.substring(3).replaceFirst("^(Promise \\d+):.*", "$1");
                body.setLength(0);
            } else if (!line.startsWith("```") && !line.startsWith("Ahead of the calls")) {
                body.append(line).append('\n');
            }
        }
        put(name, body);
    }

    /** Without the signature ahead of a promise and the rules between chapters, which ask nothing. */
    private void put(String name, StringBuilder body) {
        String plain = body.toString().replaceAll("======== \\d ", "").replaceAll("\\s+", " ").trim();
        sections.put(name, plain.replaceFirst("^`[^`]*`: ", ""));
        asked.put(name, new boolean[plain.length()]);
    }

    void term(String sentence, Runnable test) {
        ask(TERMS, sentence, test);
    }

    void promise(int number, String sentence, Runnable test) {
        ask("Promise " + number, sentence, test);
    }

    void part(String section, String sentence, Runnable test) {
        ask(section, sentence, test);
    }

    private void ask(String section, String sentence, Runnable test) {
        about = section + ", '" + sentence + "': ";
        int at = sections.getOrDefault(section, "").indexOf(sentence);
        due("the document's own words", at < 0 ? 0 : 1, 1);
        if (at >= 0) {
            Arrays.fill(asked.get(section), at, at + sentence.length(), true);
        }
        int before = Asking.asked;
        test.run();
        due("a test that asks", Asking.asked > before ? 1 : 0, 1);
        sentences++;
        about = "";
    }

    /** Each word of the terms and of the promises stands in a sentence that a test asks. */
    void allAreAsked() {
        int promises = 0;
        for (String section : sections.keySet()) {
            boolean isPromise = section.startsWith("Promise ");
            promises += isPromise ? 1 : 0;
            if (isPromise || section.equals(TERMS)) {
                due("words without a test in " + section + ": " + wordsLeft(section), wordsLeft(section).length(), 0);
            }
        }
        due("promises", promises, 44);
        System.out.println(sentences + " sentences");
    }

    private String wordsLeft(String section) {
        StringBuilder left = new StringBuilder();
        String text = sections.get(section);
        for (int i = 0; i < text.length(); i++) {
            left.append(asked.get(section)[i] ? ' ' : text.charAt(i));
        }
        return left.toString().replaceAll("[^A-Za-z0-9]+", " ").trim();
    }
}
