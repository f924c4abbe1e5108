import java.io.IOException;
import java.lang.reflect.InvocationTargetException;
import java.lang.reflect.Method;
import java.lang.reflect.Modifier;
import java.net.URL;
import java.net.URLClassLoader;
import java.nio.file.Files;
import java.nio.file.Path;
import java.util.ArrayList;
import java.util.Comparator;
import java.util.List;
import java.util.function.BiConsumer;
import java.util.regex.Matcher;
import java.util.regex.Pattern;
import java.util.stream.Stream;
import javax.tools.JavaCompiler;
import javax.tools.ToolProvider;

/** The code of README.md is one program: it is compiled and run, and each call must answer what the page says behind it. */
public final class ReadmeTest {
    private static final Path README = Path.of("README.md");
    private static final Pattern BLOCK = Pattern.compile("(?ms)^```java\\n(.*?)^```$");
    private static final Pattern SHOWN = Pattern.compile("(x\\.\\w+\\(.*\\)); *// (true|false|-?\\d+|throws \\w+)(: .*)?");

    private final StringBuilder helpers = new StringBuilder();
    private final StringBuilder body = new StringBuilder();
    private final List<String> calls = new ArrayList<>();
    private final List<String> answers = new ArrayList<>();

    public static void main(String[] args) throws Exception {
        String page = Files.readString(README);
        ReadmeTest test = new ReadmeTest();
        test.readCode(page);
        test.runCode();
        test.everyCallIsShown();
        everyTestIsNamed(page);
        noticesWhatIsWrong();
        Check.finish();
    }

    private void readCode(String page) {
        Matcher m = BLOCK.matcher(page);
        while (m.find()) {
            String code = m.group(1);
            if (code.startsWith("static ")) {
                helpers.append(code);
            } else {
                code.lines().forEach(this::readLine);
            }
        }
        Check.yes("README.md shows a use of the class", !calls.isEmpty());
    }

    private void readLine(String line) {
        Matcher m = SHOWN.matcher(line);
        if (m.matches()) {
            body.append("try { told.accept(").append(calls.size()).append(", String.valueOf(").append(m.group(1))
                .append(")); } catch (RuntimeException e) { told.accept(").append(calls.size())
                .append(", \"throws \" + e.getClass().getSimpleName()); }\n");
            calls.add(m.group(1));
            answers.add(m.group(2));
        } else {
            Check.no("a call without its answer: " + line, line.contains("x.") || line.contains("//"));
            body.append(line).append('\n');
        }
    }

    private String program() {
        return "public final class ReadmeUse {\n" + helpers
            + "public static void run(java.util.function.BiConsumer<Integer, String> told) {\n" + body + "}\n}\n";
    }

    private void runCode() throws Exception {
        String[] got = answersOf(program(), calls.size());
        for (int i = 0; i < got.length; i++) {
            boolean same = answers.get(i).equals(got[i]);
            Check.yes("README.md: " + calls.get(i) + " answers " + got[i] + ", the page says " + answers.get(i), same);
        }
    }

    /** Compiles and runs the code of a page: what its calls answered, one by one. */
    private static String[] answersOf(String program, int size) throws Exception {
        Path dir = Files.createTempDirectory("readme");
        String[] got = new String[size];
        try {
            Path source = Files.writeString(dir.resolve("ReadmeUse.java"), program);
            JavaCompiler javac = ToolProvider.getSystemJavaCompiler();
            int code = javac.run(null, null, null, "-cp", System.getProperty("java.class.path"), "-d", dir.toString(),
                source.toString());
            Check.is("README.md compiles", code, 0);
            if (code == 0) {
                run(dir, (i, answer) -> got[i] = answer);
            }
        } finally {
            remove(dir);
        }
        return got;
    }

    private static void run(Path dir, BiConsumer<Integer, String> told) throws Exception {
        try (URLClassLoader loader = new URLClassLoader(new URL[] {dir.toUri().toURL()})) {
            loader.loadClass("ReadmeUse").getMethod("run", BiConsumer.class).invoke(null, told);
        } catch (InvocationTargetException e) {
            Check.yes("README.md runs to its end, but: " + e.getCause(), false);
        }
    }

    private static void remove(Path dir) throws IOException {
        try (Stream<Path> files = Files.walk(dir)) {
            for (Path file : files.sorted(Comparator.reverseOrder()).toList()) {
                Files.delete(file);
            }
        }
    }

    private void everyCallIsShown() {
        for (Method m : SandLetters.class.getDeclaredMethods()) {
            if (Modifier.isPublic(m.getModifiers())) {
                boolean shown = calls.stream().anyMatch(c -> c.startsWith("x." + m.getName() + "("));
                Check.yes("README.md shows " + m.getName(), shown);
            }
        }
    }

    private static void everyTestIsNamed(String page) throws IOException {
        Check.yes("README.md tells how to run the tests", page.contains(".ci/run"));
        try (Stream<Path> files = Files.list(Path.of("src/test/java"))) {
            for (Path file : files.toList()) {
                String name = file.getFileName().toString().replace(".java", "");
                Check.yes("README.md names " + name, page.contains(name));
            }
        }
    }

    /** A page that says the wrong thing must be noticed, or this test would tell nothing. */
    private static void noticesWhatIsWrong() throws Exception {
        ReadmeTest wrong = new ReadmeTest();
        wrong.readCode("```java\nSandLetters x = new SandLetters();\nx.count(4); // 4\nx.band(0, 0); // 0: no\nx.image(0); // true\n```\n");
        String[] got = answersOf(wrong.program(), wrong.calls.size());
        Check.yes("3, not 4", "3".equals(got[0]) && wrong.answers.get(0).equals("4"));
        Check.yes("throws, not 0", "throws NoSuchElementException".equals(got[1]) && wrong.answers.get(1).equals("0"));
        Check.yes("true", "true".equals(got[2]) && wrong.answers.get(2).equals("true"));
    }
}
