import java.io.IOException;
import java.nio.file.Files;
import java.nio.file.Path;
import java.util.ArrayList;
import java.util.LinkedHashMap;
import java.util.List;
import java.util.Map;

/**
 * The document's promises and its Description, cut into places (P1 to P64, TIME, PARK ..), with a mark on all that a
 * test has quoted.
 */
final class Document {
    private static final Path FILE = Path.of("../shared/DOC.md");
    // How the paragraphs of the Description begin, and the place that each is called by here.
    private static final String[][] PARAGRAPHS = {{"TIME.", "TIME"}, {"PARK.", "PARK"}, {"TICKETS.", "TICKETS"},
        {"WAITLISTS.", "WAITLISTS"}, {"LINES.", "LINES"}, {"A SLOT PASSES", "A SLOT PASSES"}, {"INPUT.", "INPUT"},
        {"ERRORS.", "ERRORS"}, {"Exceptions are", "EXCEPTIONS"}, {"The constants:", "CONSTANTS"},
        {"The constructor and", "PROMISES"}};

    private final Map<String, String> texts = new LinkedHashMap<>();
    private final Map<String, boolean[]> quoted = new LinkedHashMap<>();

    /** The document, or null where there is none. */
    static Document read() {
        if (!Files.exists(FILE)) {
            return null;
        }
        try {
            return new Document(Files.readAllLines(FILE));
        } catch (IOException e) {
            throw new java.io.UncheckedIOException(e);
        }
    }

    private Document(List<String> lines) {
        String place = null;
        for (String line : lines) {
            if (line.startsWith("## ")) {
                place = line.startsWith("## Promise ") ? "P" + line.substring(11, line.indexOf(':')) : null;
            }
            if (line.startsWith("## Description")) {
                place = "Description";
            }
            place = paragraph(line, place);
            // A heading (also TIME. and the like) says nothing by itself, and the signatures are FaceTest's.
            if (place != null && !line.startsWith("## ") && !line.matches("`.*`")) {
                texts.merge(place, line.replaceFirst("^[A-Z]+\\. ", ""), (a, b) -> a + " " + b);
            }
        }
        texts.replaceAll((key, text) -> text.replaceAll("\\s+", " ").strip());
        texts.forEach((key, text) -> quoted.put(key, new boolean[text.length()]));
    }

    private static String paragraph(String line, String place) {
        if (place != null && !place.matches("P\\d+")) {
            for (String[] paragraph : PARAGRAPHS) {
                if (line.startsWith(paragraph[0])) {
                    return paragraph[1];
                }
            }
        }
        return place;
    }

    /** Marks a quote wherever it stands in a place; false if it does not stand there. */
    boolean quote(String place, String quote) {
        String text = texts.getOrDefault(place, "");
        int at = text.indexOf(quote);
        if (at < 0) {
            return false;
        }
        for (; at >= 0; at = text.indexOf(quote, at + 1)) {
            for (int k = at; k < at + quote.length(); k++) {
                quoted.get(place)[k] = true;
            }
        }
        return true;
    }

    /** What no test has quoted, place by place. */
    List<String> unquoted() {
        List<String> all = new ArrayList<>();
        for (String place : texts.keySet()) {
            String text = texts.get(place);
            StringBuilder rest = new StringBuilder();
            for (int k = 0; k < text.length(); k++) {
                rest.append(quoted.get(place)[k] ? '\n' : text.charAt(k));
            }
            for (String piece : rest.toString().split("\n+")) {
                if (piece.matches(".*[A-Za-z0-9].*")) {
                    all.add(place + ": " + piece.strip());
                }
            }
        }
        return all;
    }
}
