import java.io.IOException;
import java.nio.charset.StandardCharsets;
import java.nio.file.Files;
import java.nio.file.Path;
import java.util.regex.Matcher;
import java.util.regex.Pattern;

/** What a look at the source can tell of LANGUAGE.md: words that must not stand in it, and how long methods are. */
public final class LanguageTest {
    private static final Due due = new Due("LanguageTest");
    private static final String[] NEVER = {"\\bthrow\\b", "\\btry\\b", "\\bcatch\\b", "\\bsynchronized\\b", "\\bassert\\b",
        "->", "::", "\\bdouble\\b", "\\bfloat\\b", "\\bpackage\\b", "\\bhashCode\\b", "\\btoString\\b", "Exact\\b",
        "\\bwhile\\s*\\(\\s*true", "for\\s*\\(\\s*;", "\\bprotected\\b", "\\bvar\\b", "\\bnew\\s+\\w+\\s*\\(\\s*\\)\\s*\\{"};

    public static void main(String[] args) throws IOException {
        Path file = Path.of(System.getProperty("softglass.root", "."), "src/main/java/SoftGlass.java");
        String source = Files.readString(file, StandardCharsets.UTF_8);
        for (int i = 0; i < source.length(); i++) {
            if (source.charAt(i) > 126) {
                due.is("sign " + (int) source.charAt(i) + " at " + i, 1, 0);
            }
        }
        String code = source.replaceAll("(?s)/\\*.*?\\*/", "").replaceAll("//[^\n]*", "");
        for (String word : NEVER) {
            due.is("'" + word + "' in the source", Pattern.compile(word).matcher(code).find() ? 1 : 0, 0);
        }
        Matcher imports = Pattern.compile("import ([^;]*);").matcher(code);
        while (imports.find()) {
            due.is("import " + imports.group(1), imports.group(1).equals("java.util.Arrays") ? 1 : 0, 1);
        }
        statics(code);
        methodLengths(source);
        due.end();
    }

    private static void statics(String code) {
        Matcher fields = Pattern.compile("\\bstatic (?!final )[^;{(]*[;=]").matcher(code);
        while (fields.find()) {
            due.is("not final: " + fields.group(), 1, 0);
        }
        due.is("static blocks", Pattern.compile("\\bstatic\\s*\\{").matcher(code).find() ? 1 : 0, 0);
    }

    private static void methodLengths(String source) {
        Matcher methods = Pattern.compile("(?ms)^( +)[\\w\\[\\]. ]+\\([^)]*\\) \\{\n.*?^\\1\\}").matcher(source);
        int found = 0;
        while (methods.find()) {
            found++;
            int lines = methods.group().split("\n").length;
            due.is("at most sixty lines: " + methods.group().split("\n")[0], lines <= 60 ? 1 : 0, 1);
        }
        due.is("methods were found", found > 60 ? 1 : 0, 1);
    }
}
