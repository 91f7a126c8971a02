import java.io.IOException;
import java.lang.reflect.InvocationTargetException;
import java.net.URL;
import java.net.URLClassLoader;
import java.nio.charset.StandardCharsets;
import java.nio.file.Files;
import java.nio.file.Path;
import java.util.ArrayList;
import java.util.List;
import java.util.regex.Matcher;
import java.util.regex.Pattern;
import java.util.stream.Stream;
import javax.tools.JavaCompiler;
import javax.tools.ToolProvider;

/** README.md: its lines of Java answer as their comments say, and its command is the one that runs every test. */
public final class ReadmeTest {
    private static final Due due = new Due("ReadmeTest");
    /** A statement of README.md that is a call, perhaps kept in a variable, and the answer that its comment begins with. */
    private static final Pattern CALL = Pattern.compile("(?:int (\\w+) = )?(x\\.\\w+\\(.*\\)); *(?://\\s*(-?\\d+|[A-Z]+)\\b.*)?");
    private static final Path ROOT = Path.of(System.getProperty("softglass.root", "."));
    private static final int MOST_CALLS = 512;

    public static void main(String[] args) throws Exception {
        String page = Files.readString(ROOT.resolve("README.md"), StandardCharsets.UTF_8);
        shownCalls(page);
        namedTests(page);
        command(page);
        due.end();
    }

    /** Called by the class that is made of README.md's lines. */
    public static void answers(String call, long got, long want) {
        due.is("README.md: " + call, got, want);
    }

    private static void shownCalls(String page) throws Exception {
        StringBuilder body = new StringBuilder();
        int calls = 0;
        for (String line : String.join("\n", blocks(page, "java")).split("\n")) {
            Matcher call = CALL.matcher(line);
            if (!call.matches()) {
                body.append(line).append('\n');
                continue;
            }
            calls++;
            due.is("an answer is shown: " + line, call.group(3) != null ? 1 : 0, 1);
            body.append(compared(call)).append('\n');
        }
        due.is("calls are shown", calls > 0 && calls < MOST_CALLS ? 1 : 0, 1);
        for (String name : methods()) {
            due.is(name + " is shown", body.indexOf("x." + name + "(") >= 0 ? 1 : 0, 1);
        }
        run("public final class Shown {\n public static void main(String[] args) {\n" + body + "}\n}\n");
    }

    private static String compared(Matcher call) {
        String want = call.group(3) == null ? "0" : call.group(3);
        String due = Character.isLetter(want.charAt(0)) ? "SoftGlass." + want : want;
        String kept = call.group(1) == null ? "" : "int " + call.group(1) + " = " + call.group(2) + ";\n";
        String got = call.group(1) == null ? call.group(2) : call.group(1);
        return kept + "ReadmeTest.answers(\"" + call.group(2) + "\", " + got + ", " + due + ");";
    }

    private static List<String> methods() {
        List<String> names = new ArrayList<>();
        for (java.lang.reflect.Method m : SoftGlass.class.getDeclaredMethods()) {
            if (java.lang.reflect.Modifier.isPublic(m.getModifiers())) {
                names.add(m.getName());
            }
        }
        return names;
    }

    private static void run(String source) throws Exception {
        Path out = Files.createTempDirectory("readme");
        Path file = out.resolve("Shown.java");
        Files.writeString(file, source, StandardCharsets.UTF_8);
        JavaCompiler compiler = ToolProvider.getSystemJavaCompiler();
        String known = System.getProperty("java.class.path");
        int failed = compiler.run(null, null, null, "-cp", known, "-d", out.toString(), file.toString());
        due.is("README.md's lines compile", failed, 0);
        if (failed == 0) {
            try (URLClassLoader loader = new URLClassLoader(new URL[] {out.toUri().toURL()})) {
                loader.loadClass("Shown").getMethod("main", String[].class).invoke(null, (Object) new String[0]);
            } catch (InvocationTargetException e) {
                due.is("README.md's lines throw " + e.getCause(), 1, 0);
            }
        }
        for (String name : new String[] {"Shown.java", "Shown.class", "."}) {
            Files.deleteIfExists(out.resolve(name).normalize());
        }
    }

    private static void namedTests(String page) throws IOException {
        List<String> there = new ArrayList<>();
        try (Stream<Path> files = Files.list(ROOT.resolve("src/test/java"))) {
            files.forEach(f -> there.add(f.getFileName().toString().replace(".java", "")));
        }
        for (String name : there) {
            due.is("README.md names " + name, name.equals("Due") || page.contains("`" + name + "`") ? 1 : 0, 1);
        }
        Matcher named = Pattern.compile("`(\\w+Test)`").matcher(page);
        while (named.find()) {
            due.is(named.group(1) + " is there", there.contains(named.group(1)) ? 1 : 0, 1);
        }
    }

    private static void command(String page) throws IOException {
        List<String> commands = blocks(page, "sh");
        due.is("one command is told", commands.size(), 1);
        Path script = ROOT.resolve(commands.isEmpty() ? "" : commands.get(0).trim());
        due.is("it may be run", Files.isRegularFile(script) && Files.isExecutable(script) ? 1 : 0, 1);
        String lines = Files.isRegularFile(script) ? Files.readString(script, StandardCharsets.UTF_8) : "";
        due.is("it runs the project's tests", lines.contains("/src/test/java/*Test.java") ? 1 : 0, 1);
        due.is("it runs the shared tests", lines.contains("/tests/*.java") ? 1 : 0, 1);
    }

    private static List<String> blocks(String page, String language) {
        List<String> found = new ArrayList<>();
        Matcher block = Pattern.compile("(?s)```" + language + "\n(.*?)```").matcher(page);
        while (block.find()) {
            found.add(block.group(1));
        }
        return found;
    }
}
