import java.io.IOException;
import java.nio.file.Files;
import java.nio.file.Path;
import java.util.ArrayList;
import java.util.LinkedHashMap;
import java.util.List;
import java.util.Map;
import java.util.Set;
import java.util.TreeSet;

/**
 * Tests of single sentences of the document. A test names its sentence by the place ("Section 4", "Promise 9") and the
 * sentence's first words; both are looked up in ../shared/DOC.md, so that no test can speak of a sentence that is not
 * there, and no sentence of a place can be left without a test unseen.
 */
final class Sentence {
    private static final Map<String, List<String>> PLACES = read();
    private static final Set<String> DEALT_WITH = new TreeSet<>();
    private static final Set<String> PLACES_SEEN = new TreeSet<>();

    private static String place = "";

    private Sentence() {
    }

    /** The places that hold sentences. */
    static List<String> places() {
        List<String> places = new ArrayList<>();
        for (Map.Entry<String, List<String>> entry : PLACES.entrySet()) {
            if (!entry.getValue().isEmpty()) {
                places.add(entry.getKey());
            }
        }
        return places;
    }

    /** The place of the next sentences. */
    static void in(String newPlace) {
        place = newPlace;
        Check.same("the document has " + place, PLACES.containsKey(place), true);
        Check.same("is tested once: " + place, PLACES_SEEN.add(place), true);
    }

    static void holds(String firstWords, Runnable test) {
        find(firstWords);
        int before = Check.checkedSoFar();
        Check.about(place + ", \"" + firstWords + "..\": ");
        try {
            test.run();
        } catch (RuntimeException e) {
            Check.same("an exception that was not due", e + " at " + lineOfTest(e), null);
        }
        Check.same("something is checked", Check.checkedSoFar() > before, true);
        Check.about("");
    }

    private static String lineOfTest(RuntimeException e) {
        for (StackTraceElement step : e.getStackTrace()) {
            if (step.getClassName().endsWith("Test")) {
                return step.toString();
            }
        }
        return "an unknown line";
    }

    static void namesNoBoundary(String firstWords) {
        find(firstWords);
    }

    private static void find(String firstWords) {
        int found = 0;
        for (String sentence : PLACES.getOrDefault(place, List.of())) {
            if (sentence.startsWith(firstWords)) {
                found++;
                Check.same("has one test: " + place + ", " + sentence, DEALT_WITH.add(place + sentence), true);
            }
        }
        Check.same(place + " has one sentence that begins with: " + firstWords, found, 1);
    }

    /** Tells the sentences of the places seen that nothing was said of. */
    static void end(String name) {
        for (String seen : PLACES_SEEN) {
            for (String sentence : PLACES.getOrDefault(seen, List.of())) {
                Check.same("is dealt with: " + seen + ", " + sentence, DEALT_WITH.contains(seen + sentence), true);
            }
        }
        Check.end(name);
    }

    private static Map<String, List<String>> read() {
        Map<String, List<String>> places = new LinkedHashMap<>();
        List<String> sentences = new ArrayList<>();
        StringBuilder paragraph = new StringBuilder();
        boolean inCode = false;
        for (String line : lines()) {
            boolean section = line.matches("[1-7]\\. [A-Z].*");
            if (line.startsWith("```")) {
                inCode = !inCode;
            } else if (line.startsWith("#") || section) {
                split(paragraph, sentences);
                sentences = new ArrayList<>();
                places.put(section ? "Section " + line.charAt(0) : line.replaceAll("^#+ |:.*", ""), sentences);
            } else if (!inCode) {
                boolean own = line.isEmpty() || line.startsWith("- ") || line.matches("(setup|item|part) = .*");
                if (own) {
                    split(paragraph, sentences);
                }
                paragraph.append(line.replaceAll("^- ", "").replace("`", "")).append(' ');
            }
        }
        split(paragraph, sentences);
        return places;
    }

    private static List<String> lines() {
        try {
            return Files.readAllLines(Path.of("../shared/DOC.md"));
        } catch (IOException e) {
            return List.of();
        }
    }

    /** A promise's first sentence stands behind the method's head, which is no part of it. */
    private static void split(StringBuilder paragraph, List<String> sentences) {
        String text = paragraph.toString().trim().replaceAll("^(int|boolean|float|double|CardLoom)\\b[^:]*\\)[^:]*: ",
                "");
        for (String sentence : text.split("(?<=\\.)\\s+")) {
            if (!sentence.isEmpty()) {
                sentences.add(sentence);
            }
        }
        paragraph.setLength(0);
    }

    public static void main(String[] args) {
        PLACES.forEach((where, all) -> all.forEach(sentence -> System.out.println(where + " | " + sentence)));
    }
}
