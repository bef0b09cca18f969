import java.io.IOException;
import java.nio.file.Files;
import java.nio.file.Path;
import java.util.List;
import java.util.Set;
import java.util.TreeSet;
import java.util.regex.Matcher;
import java.util.regex.Pattern;
import java.util.stream.Collectors;
import java.util.stream.Stream;

/** That the tests of boundary cases, together, deal with every place of the document that holds sentences. */
final class SentencesTest {
    private static final Pattern PLACE = Pattern.compile(" Sentence\\.in\\(\"([^\"]+)\"\\)| promise\\((\\d+)\\)");

    public static void main(String[] args) throws IOException {
        Set<String> tested = new TreeSet<>();
        for (Path file : testsOfBoundaries()) {
            String source = Files.readString(file);
            Matcher place = PLACE.matcher(source);
            while (place.find()) {
                String name = place.group(1) == null ? "Promise " + place.group(2) : place.group(1);
                Check.same("one test deals with " + name, tested.add(name), true);
            }
            Check.same("the sentences are counted in " + file, source.contains("Sentence.end("), true);
        }
        Check.same("the places", String.join("\n", tested), String.join("\n", new TreeSet<>(Sentence.places())));
        Check.same("the document has 65 promises", tested.stream().filter(name -> name.startsWith("Promise")).count(), 65L);
        Check.end("SentencesTest");
    }

    private static List<Path> testsOfBoundaries() throws IOException {
        try (Stream<Path> files = Files.list(Path.of("src/test/java"))) {
            return files.filter(file -> file.toString().endsWith("BoundaryTest.java")).sorted().collect(Collectors.toList());
        }
    }
}
