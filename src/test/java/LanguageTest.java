import java.io.IOException;
import java.nio.file.Files;
import java.nio.file.Path;
import java.util.regex.Matcher;
import java.util.regex.Pattern;

/** A coarse look at the source: what LANGUAGE.md rules out by a word or a sign does not stand in it. */
public final class LanguageTest {
    private static int wrong = 0;

    private static void none(String source, int rule, String pattern) {
        Matcher m = Pattern.compile(pattern).matcher(source);
        while (m.find()) {
            wrong++;
            System.out.println("rule " + rule + ": \"" + m.group() + "\" in line "
                + source.substring(0, m.start()).lines().count());
        }
    }

    public static void main(String[] args) throws IOException {
        String whole = Files.readString(Path.of("src/main/java/WarmNight.java"));
        none(whole, 4, "[^\\x0a\\x20-\\x7e]");
        // Comments are taken out, their line ends are not, so that lines keep their numbers.
        String source = Pattern.compile("/\\*.*?\\*/", Pattern.DOTALL).matcher(whole)
            .replaceAll(r -> r.group().replaceAll("[^\\n]", ""));
        source = source.replaceAll("//[^\\n]*", "");
        none(source, 1, "\\b(package|protected)\\b");
        none(source, 2, "->|::");
        none(source, 3, "\\b(Object|Map|Set|Optional|Stream|BigInteger|Character|Boolean|Double|NaN)\\b");
        none(source, 4, "\\bimport\\b|\\bExact\\b|Exact\\(|@[A-Z]");
        none(source, 4, "\\b(Math|Integer|Long)\\.(?!min\\(|max\\(|abs\\(|bitCount\\(|floorMod\\(|floorDiv\\(|compare\\()\\w+");
        none(source, 4, "System\\.(?!arraycopy)");
        none(source, 5, "\\bstatic\\s*\\{|\\bstatic (?!final\\b|class\\b)(?:int|long|boolean|char|String)[\\[\\] ]+\\w+\\s*[=;]");
        none(source, 6, "\\b(throw|throws|try|catch|synchronized|assert|hashCode|toString)\\b");
        none(source, 10, "\"[^\"\\n]*\"\\s*\\+|\\+\\s*\"");
        none(source, 13, "\\b(Random|Thread|File|nanoTime|currentTimeMillis|getenv)\\b");
        System.out.println(wrong == 0 ? "no word that is ruled out" : wrong + " words that are ruled out");
        if (wrong != 0) System.exit(1);
    }
}
