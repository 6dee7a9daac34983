import java.io.IOException;
import java.io.UncheckedIOException;
import java.nio.file.Files;
import java.nio.file.Path;
import java.util.ArrayList;
import java.util.LinkedHashMap;
import java.util.LinkedHashSet;
import java.util.List;
import java.util.Map;
import java.util.Set;
import java.util.regex.Matcher;
import java.util.regex.Pattern;

/**
 * The sentences of ../shared/DOC.md by their places: the paragraphs of the description by their first words, the
 * promises by their numbers. A test names the sentences that it asks about, and none may be left over.
 */
final class Doc {
    private static final Map<String, List<String>> SENTENCES = read(Path.of("../shared/DOC.md"));
    private static final Set<String> ASKED = new LinkedHashSet<>();
    private static String latest = "";

    private Doc() {
    }

    private static Map<String, List<String>> read(Path path) {
        Map<String, List<String>> all = new LinkedHashMap<>();
        String document;
        try {
            document = Files.readString(path);
        } catch (IOException e) {
            throw new UncheckedIOException(e);
        }
        int promises = document.indexOf("## Promise 1:");
        String description = document.substring(document.indexOf("## Description") + 14, promises);
        for (String paragraph : description.trim().split("\\n\\s*\\n")) {
            List<String> found = sentences(paragraph);
            String place = found.remove(0);
            all.put(place.substring(0, place.length() - 1), found);
        }
        Matcher m = Pattern.compile("(?s)## Promise (\\d+): [^\\n]*\\n(.*?)(?=\\n## )").matcher(document);
        while (m.find()) {
            List<String> found = new ArrayList<>();
            for (String paragraph : m.group(2).trim().split("\\n\\s*\\n|\\n(?=- )")) {
                if (!isSignature(paragraph) && !isName(paragraph)) {
                    found.addAll(sentences(paragraph));
                }
            }
            all.put(m.group(1), found);
        }
        return all;
    }

    private static boolean isSignature(String paragraph) {
        return paragraph.startsWith("`") || paragraph.startsWith("----");
    }

    /** A parameter that is told without a number has its bounds where the description tells of it. */
    private static boolean isName(String paragraph) {
        return paragraph.startsWith("- ") && !paragraph.matches("(?s).*\\d.*");
    }

    private static List<String> sentences(String paragraph) {
        String line = paragraph.trim().replaceAll("\\s+", " ");
        return new ArrayList<>(List.of(line.split("(?<=\\.) ")));
    }

    /** Each start is that of one sentence at this place. */
    static void sentence(String place, String... starts) {
        for (String start : starts) {
            List<String> matching = new ArrayList<>(SENTENCES.getOrDefault(place, List.of()));
            matching.removeIf(sentence -> !sentence.startsWith(start));
            if (matching.size() != 1) {
                throw new IllegalStateException(place + " has " + matching.size() + " sentences: " + start);
            }
            ASKED.add(place + ": " + matching.get(0));
            latest = place + ": " + start;
        }
    }

    static String latest() {
        return latest;
    }

    static List<String> notAsked() {
        List<String> left = new ArrayList<>();
        SENTENCES.forEach((place, sentences) -> sentences.forEach(sentence -> left.add(place + ": " + sentence)));
        left.removeAll(ASKED);
        return left;
    }

    static int size() {
        return SENTENCES.values().stream().mapToInt(List::size).sum();
    }
}
