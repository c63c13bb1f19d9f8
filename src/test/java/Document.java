import java.io.IOException;
import java.nio.file.Files;
import java.nio.file.Path;
import java.util.ArrayList;
import java.util.LinkedHashMap;
import java.util.List;
import java.util.Map;

/** The document's sections as plain text, and which parts of them were spoken for. */
final class Document {
    private final Map<String, String> texts = new LinkedHashMap<>();
    private final Map<String, boolean[]> spokenFor = new LinkedHashMap<>();

    Document(Path file) throws IOException {
        for (String section : Files.readString(file).split("(?m)^## ")) {
            int end = section.indexOf('\n');
            String name = section.substring(0, end).replaceFirst(":.*", "");
            String text = plain(section.substring(end));
            texts.put(name, text);
            spokenFor.put(name, new boolean[text.length()]);
        }
    }

    /** Without a promise's signature in front, without marks of form, and with single blanks. */
    private static String plain(String text) {
        return text.replaceFirst("^\\s*`[^`]*`:", "").replaceAll("(?m)^```.*$", "").replace("`", "")
            .replaceAll("\\s+", " ").strip();
    }

    /** False if the words do not stand in that section just once. */
    boolean speakFor(String section, String words) {
        String text = texts.getOrDefault(section, "");
        int at = text.indexOf(words);
        if (at < 0 || text.indexOf(words, at + 1) >= 0) {
            return false;
        }
        java.util.Arrays.fill(spokenFor.get(section), at, at + words.length(), true);
        return true;
    }

    /** What of the section is left that has letters or numbers. */
    List<String> left(String section) {
        List<String> left = new ArrayList<>();
        StringBuilder run = new StringBuilder();
        String text = texts.getOrDefault(section, "there is no such section");
        boolean[] spoken = spokenFor.getOrDefault(section, new boolean[text.length()]);
        for (int k = 0; k <= text.length(); k++) {
            if (k < text.length() && !spoken[k]) {
                run.append(text.charAt(k));
            } else {
                if (run.chars().anyMatch(Character::isLetterOrDigit)) {
                    left.add(run.toString().strip());
                }
                run.setLength(0);
            }
        }
        return left;
    }
}
