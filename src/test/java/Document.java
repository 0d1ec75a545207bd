import java.io.IOException;
import java.nio.file.Files;
import java.nio.file.Path;
import java.util.ArrayList;
import java.util.Arrays;
import java.util.List;
import java.util.regex.Matcher;
import java.util.regex.Pattern;

/** The words of the document: its terms (section 0) and its promises (1 to 27), and which of them were quoted. */
final class Document {
    static final int PROMISES = 27;

    private final String[] sections = new String[PROMISES + 1];
    private final boolean[][] quoted = new boolean[PROMISES + 1][];

    Document(Path path) throws IOException {
        String[] parts = Files.readString(path).split("(?m)^## ");
        Arrays.fill(sections, "");
        for (String part : parts) {
            String heading = part.lines().findFirst().orElse("");
            String words = part.substring(heading.length()).replaceAll("(?m)^```.*$", " ").replaceAll("\\s+", " ");
            Matcher promise = Pattern.compile("Promise (\\d+): .*").matcher(heading);
            // What stands ahead of the first term tells what the whole is about.
            if (heading.equals("What it is")) sections[0] += words.substring(words.indexOf("======== 1"));
            if (heading.equals("Terms")) sections[0] += words;
            if (promise.matches()) sections[Integer.parseInt(promise.group(1))] = words.replaceFirst(" `[^`]*`:", "");
        }
        for (int i = 0; i <= PROMISES; i++) quoted[i] = new boolean[sections[i].length()];
    }

    /** Answers whether the promise, or else the terms, say these words, and keeps that they were quoted. */
    boolean says(int promise, String words) {
        return quote(promise, words) || quote(0, words);
    }

    private boolean quote(int section, String words) {
        int at = sections[section].indexOf(words);
        if (at < 0) return false;
        Arrays.fill(quoted[section], at, at + words.length(), true);
        return true;
    }

    /** The words that nobody quoted. */
    List<String> unquoted() {
        List<String> pieces = new ArrayList<>();
        for (int i = 0; i <= PROMISES; i++) {
            StringBuilder rest = new StringBuilder();
            for (int at = 0; at < sections[i].length(); at++) rest.append(quoted[i][at] ? '\n' : sections[i].charAt(at));
            for (String piece : rest.toString().split("\n+")) {
                if (piece.matches(".*[A-Za-z0-9].*")) pieces.add((i == 0 ? "terms: " : "promise " + i + ": ") + piece);
            }
        }
        return pieces;
    }
}
