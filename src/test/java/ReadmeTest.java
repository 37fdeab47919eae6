import java.io.IOException;
import java.net.URL;
import java.net.URLClassLoader;
import java.nio.file.Files;
import java.nio.file.Path;
import java.util.ArrayList;
import java.util.List;
import java.util.regex.Matcher;
import java.util.regex.Pattern;
import javax.tools.JavaCompiler;
import javax.tools.ToolProvider;

/** What README.md shows of the class compiles, answers as it says there, and names what is there. */
public final class ReadmeTest {
    private static final Pattern BLOCK = Pattern.compile("```java\n(.*?)```", Pattern.DOTALL);
    private static final Pattern ANSWER = Pattern.compile("(.*\\S)\\s*; *// (.*)");
    private static final Pattern ORDER_ROW = Pattern.compile("\\| (`[a-z][^ ]*`(?:, `[^ ]+`)*) \\| .*");

    public static void main(String[] args) throws IOException, ReflectiveOperationException {
        String readme = Files.readString(Path.of("README.md"));
        List<String> blocks = new ArrayList<>();
        Matcher block = BLOCK.matcher(readme);
        while (block.find()) {
            blocks.add(block.group(1));
        }
        Expect.same("examples", 2, blocks.size());
        for (int i = 0; i < blocks.size(); i++) {
            answers("Example" + i, blocks.get(i));
        }
        orders(readme);
        Expect.same("how to run the tests", true, readme.contains(".ci/run"));
        Expect.end("ReadmeTest");
    }

    /** Each line of the block with an answer behind it is asked in a class that is made for the block. */
    private static void answers(String name, String block) throws IOException, ReflectiveOperationException {
        StringBuilder body = new StringBuilder();
        List<String> due = new ArrayList<>();
        for (String line : block.split("\n")) {
            Matcher answer = ANSWER.matcher(line);
            if (answer.matches()) {
                due.add(answer.group(1) + ": " + answer.group(2));
                body.append(asked(answer.group(1)));
            } else {
                body.append(line).append('\n');
            }
        }
        Expect.same(name + " has answers", false, due.isEmpty());
        Expect.same(name, due, run(name, body.toString()));
    }

    private static String asked(String call) {
        String text = "\"" + call.replace("\"", "\\\"") + ": ";
        return "try { got.add(" + text + "\" + " + call + "); } catch (RuntimeException e) { got.add(" + text
            + "throws \" + e.getClass().getSimpleName()); }\n";
    }

    private static Object run(String name, String body) throws IOException, ReflectiveOperationException {
        Path directory = Files.createDirectories(Path.of("build", "readme"));
        Path source = directory.resolve(name + ".java");
        Files.writeString(source, "public final class " + name + " {\n"
            + "public static java.util.List<String> answers() {\n"
            + "java.util.List<String> got = new java.util.ArrayList<>();\n" + body + "return got;\n}\n}\n");
        JavaCompiler compiler = ToolProvider.getSystemJavaCompiler();
        int code = compiler.run(null, null, null, "-cp", System.getProperty("java.class.path"),
            "-d", directory.toString(), source.toString());
        Expect.same(name + " compiles", 0, code);
        try (URLClassLoader loader = new URLClassLoader(new URL[] {directory.toUri().toURL()})) {
            return loader.loadClass(name).getMethod("answers").invoke(null);
        }
    }

    /** Each order of the table is one that is read, one after the other in an office with a ticket. */
    private static void orders(String readme) {
        int rows = 0;
        Matcher row = ORDER_ROW.matcher(readme);
        FerryTickets office = new FerryTickets();
        Expect.print(office, "ba", 0, 1, 1);
        while (row.find()) {
            rows++;
            for (String order : row.group(1).replace("`", "").split(", ")) {
                Expect.same(order, 1, Expect.outcome(() -> Expect.read(office, order)));
            }
        }
        Expect.same("orders", 10, rows);
    }
}
