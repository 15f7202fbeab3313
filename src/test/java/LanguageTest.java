import java.io.IOException;
import java.nio.file.Files;
import java.nio.file.Path;
import java.util.regex.Matcher;
import java.util.regex.Pattern;

/** What of LANGUAGE.md can be seen in the text of the class. */
final class LanguageTest {
    private static final int LONGEST_METHOD = 60;

    public static void main(String[] args) throws IOException {
        String text = Files.readString(Path.of("src/main/java/ChitWright.java"));
        for (int i = 0; i < text.length(); i++) {
            Check.due("a sign is plain", true, text.charAt(i) < 128);
        }
        String code = text.replaceAll("/\\*[\\s\\S]*?\\*/", "").replaceAll("//[^\\n]*", "");
        imports(code);
        words(code);
        Check.due("static fields are final", 0, count(code, "\\bstatic (?!final\\b)[\\w\\[\\]<>]+ \\w+\\s*[=;]"));
        Check.due("no texts are joined by +", 0, count(code, "\"\\s*\\+|\\+\\s*\""));
        Check.due("thrown with a written text", count(code, "\\bthrow\\b"),
            count(code, "throw new (IndexOutOfBounds|IllegalArgument|IllegalState)Exception\\(\"[^\"]*\"\\);"));
        Check.due("few classes", true, count(code, "\\bclass\\b") <= 12);
        Check.due("short methods", true, longestMethod(text) <= LONGEST_METHOD);
        Check.close("LanguageTest");
    }

    private static void imports(String code) {
        Check.due("one import", 1, count(code, "\\bimport\\b"));
        Check.due("of ArrayList", 1, count(code, "import java\\.util\\.ArrayList;"));
        Check.due("no package", 0, count(code, "\\bpackage\\b"));
    }

    private static void words(String code) {
        String[] out = {"try", "catch", "finally", "synchronized", "assert", "instanceof", "->", "::", "System", "Object", "Exact",
            "equals", "hashCode", "toString", "double", "float", "native", "volatile", "transient", "Thread", "Random"};
        for (String word : out) {
            boolean isWord = Character.isLetter(word.charAt(0));
            Check.due(word, 0, count(code, isWord ? "\\b" + word + "\\b" : word));
        }
    }

    private static int count(String text, String pattern) {
        Matcher matcher = Pattern.compile(pattern).matcher(text);
        int found = 0;
        while (matcher.find()) {
            found++;
        }
        return found;
    }

    private static int longestMethod(String text) {
        int longest = 0;
        int start = 0;
        String[] rows = text.split("\n");
        for (int i = 0; i < rows.length; i++) {
            if (rows[i].matches(" {4,8}[\\w<>\\[\\] ]+\\(.*\\{")) {
                start = i;
            }
            if (rows[i].matches(" {4,8}\\}")) {
                longest = Math.max(longest, i - start + 1);
                start = i;
            }
        }
        return longest;
    }
}
