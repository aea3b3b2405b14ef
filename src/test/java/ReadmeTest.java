import java.io.IOException;
import java.lang.reflect.Method;
import java.net.URL;
import java.net.URLClassLoader;
import java.nio.file.Files;
import java.nio.file.Path;
import java.util.Comparator;
import java.util.List;
import java.util.regex.Matcher;
import java.util.regex.Pattern;
import java.util.stream.Stream;
import javax.tools.ToolProvider;

/** What README.md shows of calls and answers is so: its Java is compiled and run. Runs in the project's folder. */
public final class ReadmeTest {
    private static final Check CHECK = new Check();
    private static final Pattern SHOWN = Pattern.compile("((?:x\\.|tell\\(x, ).*\\)); +// (-?\\d+|BAD|STATE|FULL|NONE)\\b.*");

    private final StringBuilder members = new StringBuilder();
    private final StringBuilder steps = new StringBuilder();
    private int shown = 0;

    public static void main(String[] args) throws IOException, ReflectiveOperationException {
        String readme = Files.readString(Path.of("README.md"));
        namesEveryCall(readme);
        ReadmeTest test = new ReadmeTest();
        Matcher block = Pattern.compile("(?s)```java\n(.*?)```").matcher(readme);
        while (block.find()) test.take(block.group(1));
        test.run();
        CHECK.end("ReadmeTest");
    }

    /** Called by what is made of the page. */
    public static void due(String call, int want, int got) {
        CHECK.due(call, want, got);
    }

    /** Each call of the face is in the table, with its arguments, and is shown with an answer; fraction() by tell(). */
    private static void namesEveryCall(String readme) throws IOException {
        String document = Files.readString(Path.of("../shared/DOC.md"));
        Matcher call = Pattern.compile("    public int (\\w+)\\((.*)\\);").matcher(document);
        int calls = 0;
        while (call.find()) {
            String form = call.group(1) + "(" + call.group(2).replace("int ", "") + ")";
            CHECK.due("a row for " + form, 1, readme.contains("\n| `" + form + "` | ") ? 1 : 0);
            String example = call.group(1).equals("fraction") ? "\ntell(x, " : "\nx." + call.group(1) + "(";
            CHECK.due("an example of " + form, 1, readme.contains(example) ? 1 : 0);
            calls++;
        }
        CHECK.due("calls of the face", 23, calls);
    }

    private void take(String block) {
        if (block.startsWith("static ")) {
            members.append(block);
            return;
        }
        for (String line : block.split("\n")) {
            Matcher matcher = SHOWN.matcher(line);
            if (matcher.matches()) {
                step(matcher.group(1), matcher.group(2));
            } else {
                CHECK.due("an answer behind '" + line + "'", 1, line.startsWith("UnitSums x = new UnitSums();") ? 1 : 0);
                steps.append(line).append('\n');
            }
        }
    }

    private void step(String call, String answer) {
        String want = Character.isLetter(answer.charAt(0)) ? "UnitSums." + answer : answer;
        String quoted = call.replace("\"", "\\\"");
        steps.append("ReadmeTest.due(\"").append(quoted).append("\", ").append(want).append(", ").append(call).append(");\n");
        shown++;
    }

    private void run() throws IOException, ReflectiveOperationException {
        CHECK.due("many calls are shown", 1, shown >= 30 ? 1 : 0);
        Path folder = Files.createTempDirectory("readme");
        try {
            Path file = folder.resolve("Shown.java");
            Files.writeString(file, "public final class Shown {\n" + members + "public static void main(String[] args) {\n"
                + steps + "}\n}\n");
            String path = System.getProperty("java.class.path");
            int code = ToolProvider.getSystemJavaCompiler().run(null, null, null, "-cp", path, "-d", folder.toString(),
                file.toString());
            CHECK.due("README.md's Java compiles", 0, code);
            if (code == 0) start(folder);
        } finally {
            remove(folder);
        }
    }

    private static void start(Path folder) throws IOException, ReflectiveOperationException {
        try (URLClassLoader loader = new URLClassLoader(new URL[] {folder.toUri().toURL()})) {
            Method main = loader.loadClass("Shown").getMethod("main", String[].class);
            main.invoke(null, (Object) new String[0]);
        }
    }

    private static void remove(Path folder) throws IOException {
        List<Path> all;
        try (Stream<Path> walk = Files.walk(folder)) {
            all = walk.sorted(Comparator.reverseOrder()).toList();
        }
        for (Path path : all) Files.delete(path);
    }
}
