import java.io.File;
import java.io.IOException;
import java.lang.reflect.Method;
import java.lang.reflect.Modifier;
import java.net.URL;
import java.net.URLClassLoader;
import java.nio.file.Files;
import java.nio.file.Path;
import java.util.ArrayList;
import java.util.List;
import java.util.regex.Matcher;
import java.util.regex.Pattern;
import java.util.stream.Stream;
import javax.tools.ToolProvider;

/** What README.md tells: its code is compiled as it stands there, and each call answers what is written behind it. */
public final class ReadmeTest {
    private static final Pattern CALL = Pattern.compile("(x\\.(\\w+)\\([^;]*\\));\\s*// (-?\\d+|BAD|STATE|FULL|NONE|NO)(:.*)?");
    private static final int MOST_CALLS = 512;

    private static final Checks is = new Checks();
    private static final List<String> seen = new ArrayList<>();

    public static void main(String[] args) throws Exception {
        String page = Files.readString(Path.of("README.md"));
        List<String> code = blocks(page, "java");
        everyMethodIsUsed(code);
        theCodeAnswersAsWritten(code);
        theConstantsAreAsWritten(page);
        theTestsAreThere(page);
        is.end();
    }

    private static List<String> blocks(String page, String language) {
        List<String> lines = new ArrayList<>();
        Matcher m = Pattern.compile("(?s)```" + language + "\n(.*?)```").matcher(page);
        while (m.find()) {
            lines.addAll(List.of(m.group(1).split("\n")));
        }
        return lines;
    }

    private static void everyMethodIsUsed(List<String> code) {
        String all = String.join("\n", code);
        for (Method m : PetalWheels.class.getDeclaredMethods()) {
            if (Modifier.isPublic(m.getModifiers())) {
                is.holds("README.md uses " + m.getName(), all.contains("x." + m.getName() + "("));
            }
        }
    }

    /** Each statement that begins with x. must have its answer behind it, or it would stand there untested. */
    private static void theCodeAnswersAsWritten(List<String> code) throws Exception {
        StringBuilder body = new StringBuilder();
        int calls = 0;
        for (String line : code) {
            Matcher m = CALL.matcher(line);
            if (m.matches()) {
                calls++;
                body.append("due.accept(").append(quoted(m.group(1))).append(", new long[] {").append(m.group(1)).append(", ")
                    .append(wanted(m.group(3))).append("});\n");
            } else {
                is.holds("an answer stands behind: " + line, !line.startsWith("x."));
                body.append(line).append('\n');
            }
        }
        is.holds("calls on the page: " + calls, calls > 0 && calls + 100 <= MOST_CALLS);
        Method shown = compiled(body.toString());
        shown.invoke(null, (java.util.function.BiConsumer<String, long[]>) ReadmeTest::note);
        is.due("calls that were put", seen.size(), calls);
    }

    private static void note(String call, long[] gotAndWant) {
        seen.add(call);
        is.due("README.md: " + call, gotAndWant[0], gotAndWant[1]);
    }

    private static String quoted(String call) {
        return '"' + call.replace("\\", "\\\\").replace("\"", "\\\"") + '"';
    }

    private static String wanted(String answer) {
        return Character.isLetter(answer.charAt(0)) ? "PetalWheels." + answer : answer + "L";
    }

    private static Method compiled(String body) throws Exception {
        Path work = Files.createTempDirectory("readme");
        try {
            Path file = work.resolve("ReadmeCode.java");
            Files.writeString(file, "public final class ReadmeCode {\n"
                + "public static void run(java.util.function.BiConsumer<String, long[]> due) {\n" + body + "}\n}\n");
            int failed = ToolProvider.getSystemJavaCompiler().run(null, null, null,
                "-cp", System.getProperty("java.class.path"), "-d", work.toString(), file.toString());
            is.due("README.md compiles", failed, 0);
            URLClassLoader loader = new URLClassLoader(new URL[] {work.toUri().toURL()}, ReadmeTest.class.getClassLoader());
            return loader.loadClass("ReadmeCode").getMethod("run", java.util.function.BiConsumer.class);
        } finally {
            for (File made : work.toFile().listFiles()) {
                made.delete();
            }
            work.toFile().delete();
        }
    }

    private static void theConstantsAreAsWritten(String page) {
        is.holds("BAD and NO", page.contains("`BAD` (" + PetalWheels.BAD + "; `NO`, " + PetalWheels.NO + ", in `mark`)"));
        is.holds("STATE", page.contains("`STATE` (" + PetalWheels.STATE + ")"));
        is.holds("FULL", page.contains("`FULL` (" + PetalWheels.FULL + ")"));
        is.holds("NONE", page.contains("`NONE` (" + PetalWheels.NONE + ")"));
    }

    /** No test that is not told of, and none told of that is not there. */
    private static void theTestsAreThere(String page) throws IOException {
        is.holds(".ci/run is told of", blocks(page, "sh").contains(".ci/run"));
        is.holds(".ci/run can be run", Files.isExecutable(Path.of(".ci/run")));
        try (Stream<Path> files = Files.list(Path.of("src/test/java"))) {
            for (Path file : (Iterable<Path>) files::iterator) {
                String name = file.getFileName().toString().replace(".java", "");
                is.holds(name + " is told of", !name.endsWith("Test") || page.contains("`" + name + "`"));
            }
        }
        Matcher m = Pattern.compile("`(\\w+Test)`").matcher(page);
        while (m.find()) {
            is.holds(m.group(1) + " is there", Files.exists(Path.of("src/test/java/" + m.group(1) + ".java")));
        }
    }
}
