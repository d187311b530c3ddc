import java.io.File;
import java.io.IOException;
import java.lang.reflect.Method;
import java.lang.reflect.Modifier;
import java.net.URL;
import java.net.URLClassLoader;
import java.nio.file.Files;
import java.nio.file.Path;
import java.util.Comparator;
import java.util.List;
import java.util.function.ObjLongConsumer;
import java.util.regex.Matcher;
import java.util.regex.Pattern;
import java.util.stream.Stream;
import javax.tools.ToolProvider;

/** README.md: its lines of Java are compiled and answer as they say; it names every call and every test. */
public final class ReadmeTests {
    private static final Path PAGE = Path.of("README.md");
    private static final Path TESTS = Path.of("src/test/java");
    private static final Pattern ANSWERED = Pattern.compile("(x\\.\\w+\\(.*\\));\\s*// (-?\\d+)\\b.*");
    private static final int LEAST_ANSWERS = 25;

    private static final Due due = new Due();

    public static void main(String[] args) throws Exception {
        String page = Files.readString(PAGE);
        due.about("README.md");
        namesAllCalls(page);
        namesAllTests(page);
        linesAnswer(page);
        due.end();
    }

    private static void namesAllCalls(String page) {
        for (Method m : SideWords.class.getDeclaredMethods()) {
            if (Modifier.isPublic(m.getModifiers())) {
                due.holds("names the call " + m.getName(), page.contains("`" + m.getName() + "`"));
            }
        }
        for (String name : List.of("UNKNOWN", "BAD", "LATE", "FULL", "NONE")) {
            due.holds("names " + name, page.contains("`" + name + "`"));
        }
    }

    private static void namesAllTests(String page) throws IOException {
        due.holds("says how to run them", page.contains("    .ci/run\n") && Files.isExecutable(Path.of(".ci/run")));
        try (Stream<Path> files = Files.list(TESTS)) {
            for (Path file : files.toList()) {
                String name = file.getFileName().toString().replace(".java", "");
                due.holds("names " + name, page.contains("`" + name + "`"));
            }
        }
    }

    private static void linesAnswer(String page) throws Exception {
        StringBuilder body = new StringBuilder();
        int answers = 0;
        Matcher blocks = Pattern.compile("(?s)```java\n(.*?)```").matcher(page);
        while (blocks.find()) {
            for (String line : blocks.group(1).split("\n")) {
                Matcher answered = ANSWERED.matcher(line);
                boolean told = answered.matches();
                answers += told ? 1 : 0;
                body.append(told ? asking(answered.group(1), answered.group(2)) : line).append('\n');
            }
        }
        due.holds("has lines that answer: " + answers, answers >= LEAST_ANSWERS);
        run("public class ReadmeLines {\n"
            + "public static void run(java.util.function.ObjLongConsumer<String> answer) {\n" + body + "}\n}\n");
    }

    /** An answer is handed on as what it is more than what the page says: 0 is due. */
    private static String asking(String call, String says) {
        String text = call.replace("\"", "'");
        return "answer.accept(\"" + text + "\", (long) " + call + " - (" + says + "L));";
    }

    private static void run(String source) throws Exception {
        Path room = Files.createTempDirectory("readme");
        try {
            Path file = Files.writeString(room.resolve("ReadmeLines.java"), source);
            int code = ToolProvider.getSystemJavaCompiler().run(null, null, null, "-d", room.toString(),
                "-cp", System.getProperty("java.class.path"), file.toString());
            due.is("its lines compile", code, 0);
            if (code == 0) {
                runLines(room);
            }
        } finally {
            remove(room);
        }
    }

    private static void runLines(Path room) throws Exception {
        ObjLongConsumer<String> answer = (call, more) -> due.is(call + " less what the page says", more, 0);
        try (URLClassLoader loader = new URLClassLoader(new URL[] {room.toUri().toURL()})) {
            loader.loadClass("ReadmeLines").getMethod("run", ObjLongConsumer.class).invoke(null, answer);
        }
    }

    private static void remove(Path room) throws IOException {
        try (Stream<Path> files = Files.walk(room)) {
            files.sorted(Comparator.reverseOrder()).map(Path::toFile).forEach(File::delete);
        }
    }
}
