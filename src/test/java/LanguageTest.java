import java.io.IOException;
import java.nio.file.Files;
import java.nio.file.Path;
import java.util.regex.Matcher;
import java.util.regex.Pattern;

/** The rules of LANGUAGE.md that a plain look at the source can tell. */
public final class LanguageTest {
    private static final String[] NEVER = {
        "\\b(throw|throws|try|catch|finally|synchronized|assert|native|volatile|transient)\\b",
        "->", "::", "\\bpackage\\b", "\\bprotected\\b", "@", "\\bvar\\b",
        "\\bSystem\\.(?!arraycopy\\b)", "\\bArrays\\.(?!copyOf\\b|copyOfRange\\b|fill\\b)",
        "\\bMath\\.\\w*Exact\\b", "\\bstatic\\s*\\{", "\\b(hashCode|toString|equals)\\b",
        "\\b(Thread|Random|Object|Exception|Runtime|Class)\\b",
    };

    public static void main(String[] args) throws IOException {
        Path file = Path.of("src/main/java/MillFarmers.java");
        String source = Files.readString(file);
        String bare = source.replaceAll("(?s)/\\*.*?\\*/", " ").replaceAll("//[^\n]*", " ")
                .replaceAll("\"[^\"\n]*\"", "\"\"");
        for (String pattern : NEVER) {
            Matcher m = Pattern.compile(pattern).matcher(bare);
            Check.that("the source has no " + pattern, !m.find());
        }
        Matcher imports = Pattern.compile("import\\s+([^;]+);").matcher(bare);
        while (imports.find()) {
            Check.that("the import of " + imports.group(1) + " is one of those that are left",
                    imports.group(1).matches("java\\.util\\.(Arrays|ArrayList|List|Iterator)"));
        }
        for (int i = 0; i < source.length(); i++) {
            if (source.charAt(i) > 127) {
                Check.that("the source is plain ASCII at " + i, false);
                break;
            }
        }
        Check.finish();
    }
}
