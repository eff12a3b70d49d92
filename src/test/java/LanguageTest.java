import java.io.IOException;
import java.nio.charset.StandardCharsets;
import java.nio.file.Files;
import java.nio.file.Path;
import java.util.List;
import java.util.regex.Matcher;
import java.util.regex.Pattern;

/** Rules of LANGUAGE.md that the source itself shows. It is run from the project's folder. */
public final class LanguageTest {
    private static final Check CHECK = new Check("LanguageTest");
    private static final Path SOURCE = Path.of("src/main/java/ShadeRegister.java");
    private static final int MOST_LINES = 60;

    private static final List<String> WORDS = List.of("throw", "throws", "try", "catch", "finally", "synchronized",
        "assert", "native", "volatile", "transient", "protected", "package", "var", "Object", "System\\.(?!arraycopy)",
        "Thread", "Exception", "hashCode", "java\\.io", "java\\.time", "Random", "HashMap", "Map", "Set", "String\\.",
        "[a-z]+Exact");

    public static void main(String[] args) throws IOException {
        String text = Files.readString(SOURCE, StandardCharsets.UTF_8);
        String code = withoutCommentsAndTexts(text);
        for (String word : WORDS) {
            String behind = Character.isLetter(word.charAt(word.length() - 1)) ? "(?![A-Za-z])" : "";
            CHECK.holds("rule 3, 4 or 6: no " + word, !find(code, "(?<![A-Za-z])" + word + behind));
        }
        CHECK.holds("rule 2: no lambda", !code.contains("->"));
        CHECK.holds("rule 2: no method reference", !code.contains("::"));
        CHECK.holds("rule 10: no text joined by +", !find(code, "\"\\s*\\+|[^+]\\+\\s*\""));
        CHECK.holds("rule 4: signs 1 to 127", text.chars().allMatch(c -> c >= 1 && c <= 127));
        CHECK.holds("rule 4: no other imports",
            code.replaceAll("import java\\.util\\.(ArrayList|Arrays|List);", "").indexOf("import") < 0);
        CHECK.holds("rule 9: no loop without a bound", !find(code, "while \\(true\\)|for \\(;;\\)|for \\([^;]*;\\s*;"));
        CHECK.holds("rule 5: no static block", !find(code, "static \\{"));
        CHECK.holds("lines of 120 signs at most", text.lines().allMatch(line -> line.length() <= 120));
        lengths(code);
        CHECK.end();
    }

    private static boolean find(String text, String pattern) {
        return Pattern.compile(pattern).matcher(text).find();
    }

    private static String withoutCommentsAndTexts(String text) {
        return text.replaceAll("(?s)/\\*.*?\\*/", "").replaceAll("//[^\n]*", "")
            .replaceAll("\"[^\"\n]*\"", "\"\"").replaceAll("'[^'\n]+'", "' '");
    }

    private static void lengths(String code) {
        Matcher m = Pattern.compile("(?m)^( +)(?:public|private|static|final|int|long|boolean|void)[^;=\n]*\\) \\{$")
            .matcher(code);
        int methods = 0;
        while (m.find()) {
            int end = code.indexOf("\n" + m.group(1) + "}", m.start());
            long lines = code.substring(m.start(), end).lines().count() + 1;
            CHECK.holds("rule 11: at most " + MOST_LINES + " lines:" + m.group(), lines <= MOST_LINES);
            methods++;
        }
        CHECK.holds("methods were found", methods > 100);
    }
}
