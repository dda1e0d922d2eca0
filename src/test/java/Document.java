import java.io.IOException;
import java.nio.file.Files;
import java.nio.file.Path;
import java.util.ArrayList;
import java.util.List;

/** The document's sections, and which of their words the tests have quoted so far. */
final class Document {
    private static final class Section {
        final String title;
        final String words;
        final boolean[] quoted;

        Section(String title, String words) {
            this.title = title;
            this.words = words;
            this.quoted = new boolean[words.length()];
        }
    }

    private final List<Section> sections = new ArrayList<>();
    /** Without the document the answers are tested all the same, but not the quotes. */
    private final boolean missing;

    Document(Path file) throws IOException {
        missing = !Files.isReadable(file);
        if (missing) {
            System.out.println(file + " is not there: the quotes are not compared with it");
            return;
        }
        for (String part : Files.readString(file).split("(?m)^## ")) {
            int end = part.indexOf('\n');
            sections.add(new Section(part.substring(0, end).trim(), plain(part.substring(end))));
        }
    }

    /** Without the marks of the text's form, and with single spaces. */
    private static String plain(String text) {
        return text.replaceAll("```\\w*", " ").replaceAll("^\\s*`[^`]*`:", " ").replaceAll("======== \\d ", " ")
                .replaceAll("\\s+", " ").trim();
    }

    private Section section(String heading) {
        for (Section section : sections) {
            if (section.title.equals(heading) || section.title.startsWith(heading + ":")) {
                return section;
            }
        }
        return null;
    }

    /** Whether the words stand under the heading; then they are quoted. */
    boolean quote(String heading, String words) {
        if (missing) {
            return true;
        }
        Section section = section(heading);
        int at = section == null ? -1 : section.words.indexOf(words);
        if (at < 0) {
            return false;
        }
        // Words that stand there twice are quoted twice, one after the other.
        while (section.quoted[at] && section.words.indexOf(words, at + 1) >= 0) {
            at = section.words.indexOf(words, at + 1);
        }
        for (int k = 0; k < words.length(); k++) {
            section.quoted[at + k] = true;
        }
        return true;
    }

    /** The words under the heading that nobody has quoted, without what only joins them. */
    String notQuoted(String heading) {
        if (missing) {
            return "";
        }
        Section section = section(heading);
        if (section == null) {
            return "there is no such heading";
        }
        StringBuilder left = new StringBuilder();
        for (int k = 0; k < section.quoted.length; k++) {
            char c = section.words.charAt(k);
            left.append(section.quoted[k] || ".,;:()".indexOf(c) >= 0 ? ' ' : c);
        }
        return left.toString().replaceAll("\\s+", " ").trim();
    }
}
