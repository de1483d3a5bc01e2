import java.io.IOException;
import java.nio.file.Files;
import java.nio.file.Path;
import java.util.Set;
import java.util.regex.Matcher;
import java.util.regex.Pattern;

/** Rules of LANGUAGE.md that the source's words show. */
public final class LanguageTest {
    private static final Path SOURCE = Path.of("src/main/java/HerringShares.java");
    private static final Set<String> REFUSED = Set.of("throw", "throws", "try", "catch", "finally", "synchronized",
            "assert", "import", "package", "protected", "hashCode", "toString", "equals", "Random", "Thread",
            "Object", "double", "float", "native", "volatile", "transient", "var", "goto");
    private static final Pattern METHOD = Pattern.compile(
            "^( +)(?:public |private |static |final )*[\\w\\[\\]]+ \\w+\\(([^()]*)\\) \\{$", Pattern.MULTILINE);

    private static int wrong;

    public static void main(String[] args) throws IOException {
        String source = Files.readString(SOURCE);
        String bare = source.replaceAll("(?s)/\\*.*?\\*/", " ").replaceAll("//[^\\n]*", " ")
                .replaceAll("\"(?:[^\"\\\\]|\\\\.)*\"", "\"\"");
        Matcher words = Pattern.compile("[A-Za-z_]\\w*").matcher(bare);
        while (words.find()) {
            check(!REFUSED.contains(words.group()), "the word " + words.group());
        }
        check(!bare.contains("->") && !bare.contains("::"), "a lambda or a method reference");
        check(!bare.contains("\"\" +") && !bare.contains("+ \"\""), "texts joined by +");
        Matcher library = Pattern.compile("(System|Math|Integer)\\.(\\w+)").matcher(bare);
        while (library.find()) {
            check(Set.of("arraycopy", "max", "min", "bitCount").contains(library.group(2)), library.group());
        }
        check(count(bare, "\\bclass \\w+") <= 12, "more than twelve classes");
        check(!source.chars().anyMatch(sign -> sign > 126 || sign < 32 && sign != '\n'), "a sign beyond ASCII");
        checkMethods(source);
        System.out.println(wrong + " faults of the language");
        if (wrong != 0) {
            System.exit(1);
        }
    }

    private static void checkMethods(String source) {
        Matcher methods = METHOD.matcher(source);
        int found = 0;
        while (methods.find()) {
            found++;
            check(methods.group(2).split(",").length <= 7, "more than seven parameters: " + methods.group());
            int end = source.indexOf("\n" + methods.group(1) + "}\n", methods.end());
            long lines = source.substring(methods.start(), end).lines().count() + 1;
            check(lines <= 60, lines + " lines: " + methods.group());
        }
        check(found > 100, "only " + found + " methods found");
    }

    private static int count(String text, String pattern) {
        return (int) Pattern.compile(pattern).matcher(text).results().count();
    }

    private static void check(boolean fine, String what) {
        if (!fine) {
            wrong++;
            System.out.println(what);
        }
    }
}
