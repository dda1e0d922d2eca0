import java.io.IOException;
import java.nio.file.Files;
import java.nio.file.Path;
import java.util.regex.Matcher;
import java.util.regex.Pattern;

/** The rules of LANGUAGE.md that can be seen in the text; .ci/run starts it in the project's folder. */
final class LanguageTest {
    private static final String[] FORBIDDEN = {
        "\\bthrow\\b", "\\bthrows\\b", "\\btry\\b", "\\bcatch\\b", "\\bsynchronized\\b", "\\bassert\\b",
        "->", "::", "\\bimport\\b", "\\bpackage\\b", "Exact\\b", "\\bSystem\\.(?!arraycopy)", "\\bThread\\b",
        "\\bObject\\b", "\\bwhile\\s*\\(\\s*true", "for\\s*\\(\\s*;\\s*;", "\\bstatic\\s*\\{",
        "\\[\\]\\s*\\[\\]\\s*\\[\\]", "\\b(double|float)\\b", "\\b(hashCode|toString|equals)\\b",
    };

    public static void main(String[] args) throws IOException {
        String text = Files.readString(Path.of("src/main/java/PlaceRectangles.java"));
        String code = text.replaceAll("(?s)/\\*.*?\\*/", "").replaceAll("//[^\\n]*", "");
        Check check = new Check();
        for (String word : FORBIDDEN) {
            Matcher matcher = Pattern.compile(word).matcher(code);
            check.isTrue("'" + word + "' stands in the program", !matcher.find());
        }
        check.isTrue("the text is plain", text.chars().allMatch(c -> c == '\n' || (c >= 32 && c < 127)));
        check.isTrue("some twelve classes at most", count("\\bclass\\b", code) <= 12);
        check.end();
    }

    private static int count(String word, String code) {
        Matcher matcher = Pattern.compile(word).matcher(code);
        int count = 0;
        while (matcher.find()) {
            count++;
        }
        return count;
    }
}
