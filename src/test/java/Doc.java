import java.io.IOException;
import java.nio.file.Files;
import java.nio.file.Path;
import java.util.ArrayList;
import java.util.LinkedHashMap;
import java.util.List;
import java.util.Map;

/** The sentences of DOC.md, section by section, and which of their words a test has quoted. */
final class Doc {
    static final String TERMS = "Terms";

    private final Map<String, String> texts = new LinkedHashMap<>();
    private final Map<String, boolean[]> quoted = new LinkedHashMap<>();

    Doc(Path file) throws IOException {
        StringBuilder text = new StringBuilder();
        String section = "";
        for (String line : Files.readAllLines(file)) {
            if (line.startsWith("## ")) {
                keep(section, text);
                section = line.substring(3).replaceAll(": .*", "");
            } else if (!line.startsWith("```") && !line.startsWith("Ahead of the calls")) {
                text.append(line.replaceAll("^[0-9]\\. ", "")).append(' ');
            }
        }
        keep(section, text);
    }

    static String promise(int number) {
        return "Promise " + number;
    }

    private void keep(String section, StringBuilder text) {
        // a promise begins with its signature
        String words = text.toString().replaceAll("\\s+", " ").replaceAll("^ `[^`]*`: ", "").trim();
        texts.put(section, words);
        quoted.put(section, new boolean[words.length()]);
        text.setLength(0);
    }

    /** Whether the section says so; what is quoted counts as tested. */
    boolean quote(String section, String words) {
        int at = texts.getOrDefault(section, "").indexOf(words);
        if (at < 0) {
            return false;
        }
        for (int i = at; i < at + words.length(); i++) {
            quoted.get(section)[i] = true;
        }
        return true;
    }

    /** What the Terms and the promises say that no test has quoted. */
    List<String> notQuoted() {
        List<String> open = new ArrayList<>();
        for (String section : texts.keySet()) {
            if (!section.equals(TERMS) && !section.startsWith("Promise ")) {
                continue;
            }
            StringBuilder rest = new StringBuilder();
            for (int i = 0; i < texts.get(section).length(); i++) {
                rest.append(quoted.get(section)[i] ? '|' : texts.get(section).charAt(i));
            }
            for (String piece : rest.toString().split("\\|+")) {
                if (piece.matches(".*[A-Za-z0-9].*")) {
                    open.add(section + ": " + piece.trim());
                }
            }
        }
        return open;
    }

    int promiseCount() {
        return (int) texts.keySet().stream().filter(section -> section.startsWith("Promise ")).count();
    }
}
