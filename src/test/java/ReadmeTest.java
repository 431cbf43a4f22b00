import java.io.IOException;
import java.lang.reflect.Field;
import java.net.URL;
import java.net.URLClassLoader;
import java.nio.file.Files;
import java.nio.file.Path;
import java.util.List;
import java.util.regex.Matcher;
import java.util.regex.Pattern;
import javax.tools.ToolProvider;

/** The page README.md: its code compiles as it stands, and each call answers what the page says behind it. */
public final class ReadmeTest {
    private static final Check C = new Check();
    private static final Path PAGE = Path.of("README.md");

    public static void main(String[] args) throws Exception {
        StringBuilder members = new StringBuilder();
        StringBuilder body = new StringBuilder();
        Matcher block = Pattern.compile("(?s)```java\n(.*?)```").matcher(Files.readString(PAGE));
        while (block.find()) {
            (block.group(1).startsWith("static ") ? members : body).append(block.group(1));
        }
        // A call with its answer behind it becomes a row of what it says, what it answered and what is due.
        Matcher call = Pattern.compile("(?m)^(x\\..*);\\s*// (-?\\d+|true|false):.*$").matcher(body);
        String asked = call.replaceAll("ROWS.add(new Object[] {\"$1\", $1, $2});");
        String code = "public final class ReadmeCode {\npublic static final java.util.List<Object[]> ROWS = new java.util.ArrayList<>();\n"
            + "static {\n" + asked + "}\n" + members + "}\n";
        List<?> rows = run(code);
        C.due("calls on the page", rows.size() > 30, true);
        for (Object row : rows) {
            Object[] r = (Object[]) row;
            C.due("README.md: " + r[0] + " answered " + r[1] + ", the page says " + r[2], r[1].toString().equals(r[2].toString()), true);
        }
        namesAllTests();
        C.end();
    }

    private static List<?> run(String code) throws Exception {
        Path out = Files.createTempDirectory("readme");
        Path source = out.resolve("ReadmeCode.java");
        Files.writeString(source, code);
        int failed = ToolProvider.getSystemJavaCompiler().run(null, null, null, "-cp", System.getProperty("java.class.path"), "-d",
            out.toString(), source.toString());
        C.due("the page's code compiles", failed, 0);
        if (failed != 0) {
            return List.of();
        }
        try (URLClassLoader loader = new URLClassLoader(new URL[] {out.toUri().toURL()})) {
            Field rows = loader.loadClass("ReadmeCode").getField("ROWS");
            return (List<?>) rows.get(null);
        } finally {
            for (Path file : List.of(source, out.resolve("ReadmeCode.class"), out)) {
                Files.deleteIfExists(file);
            }
        }
    }

    /** The table of tests has every test, and no other. */
    private static void namesAllTests() throws IOException {
        String page = Files.readString(PAGE);
        try (var files = Files.list(Path.of("src/test/java"))) {
            for (Path file : files.toList()) {
                String name = file.getFileName().toString().replace(".java", "");
                C.due("README.md names " + name, !name.endsWith("Test") || page.contains(name), true);
            }
        }
        Matcher name = Pattern.compile("\\w+Test\\b").matcher(page);
        while (name.find()) {
            C.due(name.group() + " is a test", Files.exists(Path.of("src/test/java/" + name.group() + ".java")), true);
        }
    }
}
