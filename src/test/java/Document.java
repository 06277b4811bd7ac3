import java.io.IOException;
import java.nio.file.Files;
import java.nio.file.Path;
import java.util.ArrayList;
import java.util.Arrays;
import java.util.LinkedHashMap;
import java.util.List;
import java.util.Map;

/** The words of ../shared/DOC.md by its headings, and which of them a test holds. */
final class Document {
    private static final String SIGNATURE = "^`[^`]*\\([^`]*`: ";
    private final Map<String, String> words = new LinkedHashMap<>();
    private final Map<String, boolean[]> held = new LinkedHashMap<>();

    Document(Path file) throws IOException {
        String place = "";
        for (String line : Files.readAllLines(file)) {
            if (line.startsWith("## ")) {
                place = line.substring(3).replaceAll(":.*", "").trim();
            } else if (tells(line)) {
                // FaceTest holds the signatures.
                words.merge(place, line.replaceFirst(SIGNATURE, "").trim(), (before, next) -> before + " " + next);
            }
        }
        words.forEach((each, text) -> held.put(each, new boolean[text.length()]));
    }

    /** Headings, and the order in which the interface tells its calls, promise nothing. */
    private static boolean tells(String line) {
        boolean isHeading = line.startsWith("#") || line.equals("Worlds, papers");
        return !isHeading && !line.startsWith("Ahead of the calls") && !line.isBlank();
    }

    /** False if these words do not stand there. */
    boolean hold(String place, String sentence) {
        String text = words.getOrDefault(place, "");
        int from = sentence.isEmpty() ? -1 : text.indexOf(sentence);
        boolean isThere = from >= 0;
        while (from >= 0) {
            Arrays.fill(held.get(place), from, from + sentence.length(), true);
            from = text.indexOf(sentence, from + sentence.length());
        }
        return isThere;
    }

    /** The words of terms and promises that no test holds. */
    List<String> unheld() {
        List<String> left = new ArrayList<>();
        words.forEach((place, text) -> {
            if (place.equals("Terms") || place.startsWith("Promise ")) {
                String rest = unheld(text, held.get(place));
                if (!rest.isEmpty()) {
                    left.add(place + ": " + rest);
                }
            }
        });
        return left;
    }

    int places() {
        return (int) words.keySet().stream().filter(place -> place.startsWith("Promise ")).count();
    }

    private static String unheld(String text, boolean[] isHeld) {
        StringBuilder rest = new StringBuilder();
        for (int i = 0; i < text.length(); i++) {
            rest.append(isHeld[i] ? ' ' : text.charAt(i));
        }
        return rest.toString().replaceAll("[^\\p{Alnum}`]+", " ").trim();
    }
}
