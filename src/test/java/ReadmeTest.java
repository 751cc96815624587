import java.io.File;
import java.io.IOException;
import java.lang.reflect.Method;
import java.lang.reflect.Modifier;
import java.net.URL;
import java.net.URLClassLoader;
import java.nio.file.Files;
import java.nio.file.Path;
import java.util.regex.Matcher;
import java.util.regex.Pattern;
import javax.tools.ToolProvider;

/** What README.md shows: its example is compiled and run, its texts are read, calls and tests are all named. */
public final class ReadmeTest {
    private final String page;
    private final Probe probe = new Probe();

    private ReadmeTest(String page) {
        this.page = page;
    }

    public static void main(String[] args) throws IOException, ReflectiveOperationException {
        ReadmeTest test = new ReadmeTest(Files.readString(Path.of("README.md")));
        test.example();
        test.texts();
        test.names();
        test.probe.close("ReadmeTest");
    }

    private void mustShow(String what) {
        probe.due("README.md shows " + what, 1, () -> page.contains(what) ? 1 : 0);
    }

    /** Of each row "int name = ..;   // 5: .." the name must be 5 then. */
    private void example() throws IOException, ReflectiveOperationException {
        int start = page.indexOf("```java\n") + 8;
        String code = page.substring(start, page.indexOf("```", start));
        StringBuilder source = new StringBuilder("public final class Shown {\n public static String unlike() {\n");
        Matcher due = Pattern.compile("int ([a-z]+) = .*;\\s*// (?:.*: )?(-?[0-9]+)").matcher(code);
        source.append(code);
        int many = 0;
        while (due.find()) {
            source.append("if (").append(due.group(1)).append(" != ").append(due.group(2)).append(") return \"")
                .append(due.group(1)).append("\";\n");
            many++;
        }
        source.append("return \"\";\n}\n}\n");
        int found = many;
        probe.due("answers that the example shows", 5, () -> found);
        Path folder = Files.createTempDirectory("shown");
        Path file = folder.resolve("Shown.java");
        Files.writeString(file, source);
        int failed = ToolProvider.getSystemJavaCompiler().run(null, null, null, "-cp", System.getProperty("java.class.path"),
            "-d", folder.toString(), file.toString());
        probe.due("the example compiles", 0, () -> failed);
        if (failed == 0) {
            try (URLClassLoader loader = new URLClassLoader(new URL[] {folder.toUri().toURL()})) {
                Object unlike = loader.loadClass("Shown").getMethod("unlike").invoke(null);
                probe.dueSame("what the example answers", "", (String) unlike);
            }
        }
        for (File made : folder.toFile().listFiles()) {
            Files.delete(made.toPath());
        }
        Files.delete(folder);
    }

    private void text(Probe.Text kind, long want, String... parts) {
        FogWatch x = Probe.in("corner 0;corner 0;corner 0;man 0;");
        StringBuilder whole = new StringBuilder();
        for (String part : parts) {
            mustShow("`" + part + "`");
            whole.append(part);
        }
        probe.due(kind + " of the page", want, () -> Probe.tell(x, kind, whole.toString()));
    }

    private void texts() {
        mustShow("`corner 3;` (its bell) `way 0 1 2;` (whistle, from, to) `man 1;` (his corner) `breath 60;`");
        FogWatch x = Probe.in("corner 3;corner 3;corner 3;way 0 1 2;man 1;breath 60;");
        probe.due("way of the page", 2, () -> x.way(1, 0));
        text(Probe.Text.LAW, 1, "1 + same * least[fog, 3]");
        text(Probe.Text.WORK, 11, "blow 0;", "fog 1;", "rest 9;", "walk 0 1;", "night;", "again 3[blow 0;night;];");
        text(Probe.Text.SONG, 3, "0;3;1;");
        text(Probe.Text.BOOK, 3, "4;4;9;");
        mustShow("-9 (what can't stand there), -8 (a number that is none such) or -7 (too many)");
        FogWatch y = new FogWatch();
        probe.due("what can't stand there", -9, () -> Probe.song(y, "x"));
        probe.due("a number that is none such", -8, () -> Probe.song(y, "4;"));
        probe.due("too many", -7, () -> Probe.song(y, Probe.times("0;", 21)));
    }

    private void names() {
        for (Method m : FogWatch.class.getDeclaredMethods()) {
            if (Modifier.isPublic(m.getModifiers())) {
                String name = m.getName();
                probe.due("README.md names the call " + name, 1,
                    () -> Pattern.compile("[`. ]" + name + "[`(]").matcher(page).find() ? 1 : 0);
            }
        }
        for (File file : new File("src/test/java").listFiles()) {
            String name = file.getName().replace(".java", "");
            if (name.endsWith("Test")) {
                mustShow("- `" + name + "`: ");
            }
        }
    }
}
