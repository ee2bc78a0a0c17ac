import java.io.IOException;
import java.nio.charset.StandardCharsets;
import java.nio.file.Files;
import java.nio.file.Path;
import java.nio.file.Paths;
import java.util.ArrayList;
import java.util.List;

/** The document's own sentences: whether each is held to by an edge, and each edge to words that stand there. */
final class Document {
    private static final Path FILE = Paths.get("../shared/DOC.md");
    private static final String SENTENCE_END = "(?<=[^ .]\\.) ";
    private static final int PROMISES = 56;

    private Document() {
    }

    static void check() throws IOException {
        if (!Files.exists(FILE)) {
            System.out.println("no " + FILE + ": the words that are quoted aren't looked up");
            return;
        }
        String all = plain(new String(Files.readAllBytes(FILE), StandardCharsets.ISO_8859_1));
        for (String[] quote : Edges.QUOTED) {
            if (!all.contains(plain(quote[1]))) {
                Edges.blame("quoted, but not in the document: " + quote[1]);
            }
        }
        for (String sentence : between(all, "## Terms", "The constants:").split(SENTENCE_END)) {
            if (!sentence.startsWith("====") && !isQuoted(sentence, 0)) {
                Edges.blame("no edge of: " + sentence);
            }
        }
        for (int promise = 1; promise <= PROMISES; promise++) {
            promise(all, promise);
        }
    }

    private static void promise(String all, int promise) {
        String end = promise == PROMISES ? "## Not promised" : "## Promise " + (promise + 1) + ":";
        String part = between(all, "## Promise " + promise + ":", end);
        String body = part.substring(part.indexOf("`: ") + 3);
        for (String sentence : body.split(SENTENCE_END)) {
            if (!isQuoted(sentence, promise)) {
                Edges.blame("no edge of promise " + promise + ": " + sentence);
            }
        }
    }

    private static boolean isQuoted(String sentence, int promise) {
        for (String[] quote : Edges.QUOTED) {
            boolean fits = promise == 0 || quote[0].equals(String.valueOf(promise));
            String words = plain(quote[1]);
            if (fits && (sentence.contains(words) || words.contains(sentence))) {
                return true;
            }
        }
        return false;
    }

    private static String between(String all, String begin, String end) {
        return all.substring(all.indexOf(begin) + begin.length(), all.indexOf(end)).trim();
    }

    private static String plain(String words) {
        List<String> parts = new ArrayList<>();
        for (String part : words.replace("```text", " ").replace("```", " ").split("\\s+")) {
            if (!part.isEmpty()) {
                parts.add(part);
            }
        }
        return String.join(" ", parts);
    }
}
