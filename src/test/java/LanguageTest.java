import java.io.IOException;
import java.nio.file.Files;
import java.nio.file.Path;
import java.util.regex.Matcher;
import java.util.regex.Pattern;

/** What ../shared/LANGUAGE.md forbids and plain looking can find, is not in the program. */
public final class LanguageTest {
    private static final String[] FORBIDDEN = {"\\b(throw|throws|try|catch|synchronized|assert|native|volatile)\\b",
        "->", "::", "\\bString\\s*\\+", "\\bpackage\\b", "\\bstatic\\s*\\{", "Exact\\b", "\\bSystem\\.(?!arraycopy)",
        "\\bMath\\.random\\b", "\\bimport (?!java\\.util\\.(Arrays|ArrayList|List|Iterator);)", "\\bstatic (?!final|\\w+ \\w+\\()\\w+ \\w+ *[=;]"};

    public static void main(String[] args) throws IOException {
        Answers answers = new Answers();
        answers.about("the language");
        String source = Files.readString(Path.of("src/main/java/SpeckValves.java"));
        String code = source.replaceAll("(?s)/\\*.*?\\*/", "").replaceAll("//[^\n]*", "");
        for (String words : FORBIDDEN) {
            answers.due("how often there is " + words, timesOf(words, code), 0);
        }
        answers.due("signs that are not ASCII", timesOf("[^\\x01-\\x7f]", source), 0);
        answers.due("too many classes", timesOf("\\bclass\\b", code) > 12 ? 1 : 0, 0);
        answers.due("methods of more than sixty lines", longMethods(code), 0);
        answers.due("methods of more than seven parameters", timesOf("\\w+ \\w+\\((\\w+(\\[\\])? \\w+, ){7}", code), 0);
        answers.end();
    }

    private static int timesOf(String words, String code) {
        Matcher found = Pattern.compile(words).matcher(code);
        int times = 0;
        while (found.find()) {
            times++;
        }
        return times;
    }

    /** A method ends at the brace that stands as far in as its own first line. */
    private static int longMethods(String code) {
        int times = 0;
        Matcher found = Pattern.compile("(?ms)^( +)(?!for|if|while|switch|else)[\\w\\[\\] ]+\\([^;{]*\\) \\{$.*?^\\1\\}$").matcher(code);
        while (found.find()) {
            times += found.group().lines().count() > 60 ? 1 : 0;
        }
        return times;
    }
}
