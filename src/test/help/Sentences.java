import java.io.IOException;
import java.nio.charset.StandardCharsets;
import java.nio.file.Files;
import java.nio.file.Path;
import java.util.ArrayList;
import java.util.LinkedHashMap;
import java.util.List;
import java.util.Map;

/** Tests by the document's own words: each test quotes what it tests, and no sentence of a section stays untested. */
abstract class Sentences extends Check {
    private static final List<String> BARE_HEADINGS = List.of("Requests, prices", "Cancelled, barred, paid");

    private static final Map<String, List<String>> sections = new LinkedHashMap<>();
    private static final List<String> quoted = new ArrayList<>();
    private static String section = "";

    static void open(String[] args) throws IOException {
        Path document = Path.of(args.length > 0 ? args[0] : ".").resolve("../shared/DOC.md");
        List<String> sentences = new ArrayList<>();
        boolean isCode = false;
        for (String line : Files.readAllLines(document, StandardCharsets.UTF_8)) {
            isCode ^= line.startsWith("```");
            if (line.startsWith("#") || BARE_HEADINGS.contains(line)) {
                sentences = new ArrayList<>();
                sections.put(line.replaceFirst("^#+ ", ""), sentences);
            } else if (!isCode && !line.isBlank() && !line.startsWith("```")) {
                sentences.addAll(List.of(line.split("(?<=\\.) ")));
            }
        }
    }

    /** Begins the tests of a section; those of the one ahead must have quoted from each of its sentences. */
    static void section(String heading) {
        endSection();
        section = heading;
        about(heading);
        must("there is no such section", sections.containsKey(heading));
    }

    static void endSection() {
        about(section);
        for (String sentence : sections.getOrDefault(section, List.of())) {
            must("no test of: " + sentence, quoted.stream().anyMatch(sentence::contains));
        }
        quoted.clear();
        section = "";
    }

    /** One test of one sentence; what it throws is a fault of its own, and the tests behind it go on. */
    static void says(String quote, Runnable test) {
        namesNoBoundary(quote);
        about(section + ", \"" + quote + "\"");
        int before = failures();
        try {
            test.run();
        } catch (RuntimeException e) {
            must("threw " + e, false);
        }
        if (failures() > before) {
            System.out.println("  broken: \"" + quote + "\"");
        }
    }

    /** A sentence that only tells what others make precise. */
    static void namesNoBoundary(String quote) {
        about(section);
        must("the document does not say: " + quote,
                sections.getOrDefault(section, List.of()).stream().anyMatch(sentence -> sentence.contains(quote)));
        quoted.add(quote);
    }
}
