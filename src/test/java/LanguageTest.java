import java.io.IOException;
import java.lang.reflect.Field;
import java.lang.reflect.Method;
import java.lang.reflect.Modifier;
import java.nio.file.Files;
import java.nio.file.Path;
import java.util.regex.Matcher;
import java.util.regex.Pattern;

/** A coarse look at the source: words, signs, and lengths that LANGUAGE.md rules out do not stand in it. */
public final class LanguageTest {
    private static int wrong = 0;

    private static void none(String source, int rule, String pattern) {
        Matcher m = Pattern.compile(pattern).matcher(source);
        while (m.find()) {
            wrong++;
            System.out.println("rule " + rule + ": \"" + m.group() + "\" in line "
                + source.substring(0, m.start()).lines().count());
        }
    }

    private static void check(boolean is, int rule, String what) {
        if (!is) {
            wrong++;
            System.out.println("rule " + rule + ": " + what);
        }
    }

    /** A member's end is the brace under its first sign. */
    private static void lengths(String source) {
        String[] lines = source.split("\n");
        for (int i = 0; i < lines.length; i++) {
            Matcher m = Pattern.compile("( {4}| {8})\\S.*\\) \\{").matcher(lines[i]);
            if (!m.matches()) continue;
            int end = i;
            while (end < lines.length && !lines[end].equals(m.group(1) + "}")) end++;
            check(end < lines.length && end - i < 60, 11, "a method of " + (end - i + 1) + " lines at line " + (i + 1));
        }
    }

    private static void members(Class<?> c) {
        int fields = 0;
        for (Field f : c.getDeclaredFields()) {
            if (Modifier.isStatic(f.getModifiers())) {
                check(Modifier.isFinal(f.getModifiers()), 5, "static and not final: " + f);
            } else {
                fields++;
            }
        }
        check(fields <= 20, 11, c + " has " + fields + " fields");
        for (Method m : c.getDeclaredMethods()) {
            check(m.getParameterCount() <= 7, 11, m + " takes too many parameters");
            check(!Modifier.isSynchronized(m.getModifiers()) && m.getExceptionTypes().length == 0, 6, m.toString());
        }
    }

    public static void main(String[] args) throws IOException {
        String whole = Files.readString(Path.of("src/main/java/WarmNight.java"));
        none(whole, 4, "[^\\x0a\\x20-\\x7e]");
        // Comments are taken out, their line ends are not, so that lines keep their numbers.
        String source = Pattern.compile("/\\*.*?\\*/", Pattern.DOTALL).matcher(whole)
            .replaceAll(r -> r.group().replaceAll("[^\\n]", ""));
        source = source.replaceAll("//[^\\n]*", "");
        none(source, 1, "\\b(package|protected)\\b");
        none(source, 2, "->|::");
        none(source, 3, "\\b(Object|Map|Set|Optional|Stream|BigInteger|Character|Boolean|Double|NaN)\\b");
        none(source, 4, "\\bimport\\b|\\bExact\\b|Exact\\(|@[A-Z]");
        none(source, 4, "\\b(Math|Integer|Long)\\.(?!min\\(|max\\(|abs\\(|bitCount\\(|floorMod\\(|floorDiv\\(|compare\\()\\w+");
        none(source, 4, "System\\.(?!arraycopy)");
        none(source, 5, "\\bstatic\\s*\\{|\\bstatic (?!final\\b|class\\b)(?:int|long|boolean|char|String)[\\[\\] ]+\\w+\\s*[=;]");
        none(source, 6, "\\b(throw|throws|try|catch|synchronized|assert|hashCode|toString)\\b");
        none(source, 10, "\"[^\"\\n]*\"\\s*\\+|\\+\\s*\"");
        none(source, 13, "\\b(Random|Thread|File|nanoTime|currentTimeMillis|getenv)\\b");
        lengths(source);
        members(WarmNight.class);
        for (Class<?> inside : WarmNight.class.getDeclaredClasses()) members(inside);
        System.out.println(wrong == 0 ? "nothing that is ruled out" : wrong + " things that are ruled out");
        if (wrong != 0) System.exit(1);
    }
}
