import java.io.IOException;
import java.io.UncheckedIOException;
import java.nio.file.Files;
import java.nio.file.Path;
import java.util.ArrayList;
import java.util.BitSet;
import java.util.LinkedHashMap;
import java.util.List;
import java.util.Map;
import java.util.regex.Matcher;
import java.util.regex.Pattern;

/** The document's terms and promises, a text each, and which of their words a test has quoted. */
final class Doc {
    private static final Path FILE = Path.of("../shared/DOC.md");
    private static final Map<String, String> TEXTS = read();
    private static final Map<String, BitSet> QUOTED = new LinkedHashMap<>();

    private Doc() {
    }

    /** Whether words stand under "Term n", "Promise n", "Constants" or "Calls"; they are quoted then. */
    static boolean quote(String where, String words) {
        String text = TEXTS.getOrDefault(where, "");
        BitSet quoted = QUOTED.computeIfAbsent(where, name -> new BitSet());
        int at = text.indexOf(words);
        boolean stands = at >= 0;
        while (at >= 0) {
            quoted.set(at, at + words.length());
            at = text.indexOf(words, at + 1);
        }
        return stands;
    }

    static List<String> places() {
        return new ArrayList<>(TEXTS.keySet());
    }

    /** What no test has quoted; empty if nothing is left but signs and blanks. */
    static String unquoted(String where) {
        String text = TEXTS.get(where);
        BitSet quoted = QUOTED.getOrDefault(where, new BitSet());
        StringBuilder left = new StringBuilder();
        for (int i = 0; i < text.length(); i++) {
            left.append(quoted.get(i) ? '_' : text.charAt(i));
        }
        String rest = left.toString().replaceAll("_+", "_");
        return rest.matches("[^A-Za-z0-9]*") ? "" : rest;
    }

    private static Map<String, String> read() {
        String all;
        try {
            all = Files.readString(FILE).replaceAll("(?m)^```.*$", "");
        } catch (IOException e) {
            throw new UncheckedIOException(e);
        }
        Map<String, String> texts = new LinkedHashMap<>();
        texts.put("Calls", fold(cut(all, "the least coin that frees most.", "## The public face")));
        String terms = cut(all, "## Terms", "The constants:");
        Matcher term = Pattern.compile("(?ms)^(\\d+)\\. (.*?)(?=^\\d+\\. |\\z)").matcher(terms);
        while (term.find()) {
            texts.put("Term " + term.group(1), fold(term.group(2)));
        }
        texts.put("Constants", fold(cut(all, "The constants:", "## Promise 1:")));
        Matcher promise = Pattern.compile("(?ms)^## Promise (\\d+): \\w[^\n]*\n\\s*`[^`]*`: (.*?)(?=^## )").matcher(all);
        while (promise.find()) {
            texts.put("Promise " + promise.group(1), fold(promise.group(2)));
        }
        return texts;
    }

    private static String cut(String text, String from, String to) {
        int start = text.indexOf(from) + from.length();
        return text.substring(start, text.indexOf(to, start));
    }

    private static String fold(String text) {
        return text.replaceAll("\\s+", " ").trim();
    }
}
