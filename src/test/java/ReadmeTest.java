import java.lang.reflect.Method;
import java.lang.reflect.Modifier;
import java.net.URL;
import java.net.URLClassLoader;
import java.nio.file.Files;
import java.nio.file.Path;
import java.util.ArrayList;
import java.util.Comparator;
import java.util.List;
import java.util.Map;
import java.util.regex.MatchResult;
import java.util.regex.Matcher;
import java.util.regex.Pattern;
import java.util.stream.Collectors;
import java.util.stream.Stream;
import javax.tools.JavaCompiler;
import javax.tools.ToolProvider;

/** README.md's code, compiled and run as it stands there: each call must answer what stands behind it. */
public final class ReadmeTest {
    private static final Pattern BLOCK = Pattern.compile("(?s)```java\n(.*?)```");
    private static final Pattern CALL = Pattern.compile("(?m)^(x\\.\\w+\\(.*\\));(.*)$");
    private static final Pattern ANSWER = Pattern.compile("\\s+// (-?\\d+|[A-Z]+)(:.*)?");
    private static final Map<String, Long> NAMED = Map.of("UNKNOWN", -1L, "OUTSIDE", -2L, "STATE", -3L, "FULL", -4L, "NONE", -9L,
        "LOST", Long.MIN_VALUE);

    private static final List<String> CALLS = new ArrayList<>();
    private static final List<Long> DUE = new ArrayList<>();

    public static void main(String[] args) throws Exception {
        String readme = Files.readString(Path.of("README.md"));
        String code = BLOCK.matcher(readme).results().map(block -> block.group(1)).collect(Collectors.joining());
        everyCallIsShown(code);
        List<Long> got = answers(CALL.matcher(code).replaceAll(ReadmeTest::noting));
        Due.is("calls of README.md that have run", got.size(), CALLS.size());
        for (int k = 0; k < got.size(); k++) {
            Due.is("README.md: " + CALLS.get(k), got.get(k), DUE.get(k));
        }
        Due.end();
    }

    private static void everyCallIsShown(String code) {
        for (Method method : LoopRounds.class.getDeclaredMethods()) {
            if (Modifier.isPublic(method.getModifiers())) {
                Due.holds("README.md shows " + method.getName(), code.contains("x." + method.getName() + "("));
            }
        }
    }

    /** Keeps what is due of a call that stands in a line of its own; the line becomes one that notes its answer. */
    private static String noting(MatchResult line) {
        String call = line.group(1);
        Matcher answer = ANSWER.matcher(line.group(2));
        boolean isTold = answer.matches();
        Due.holds("README.md tells the answer of " + call, isTold);
        String told = isTold ? answer.group(1) : "0";
        CALLS.add(call);
        DUE.add(NAMED.containsKey(told) ? NAMED.get(told) : Long.parseLong(told));
        return Matcher.quoteReplacement("got.add((long) " + call + ");");
    }

    /** Compiles and runs the code in a folder of its own: the answers that it notes. */
    private static List<Long> answers(String code) throws Exception {
        Path folder = Files.createTempDirectory("readme");
        try {
            Path source = folder.resolve("ReadmeCode.java");
            Files.writeString(source, "public final class ReadmeCode { public static void run(java.util.List<Long> got) {\n" + code + "} }\n");
            JavaCompiler javac = ToolProvider.getSystemJavaCompiler();
            String[] how = {"-cp", System.getProperty("java.class.path"), "-d", folder.toString(), source.toString()};
            boolean compiles = javac != null && javac.run(null, null, null, how) == 0;
            Due.holds("README.md's code compiles", compiles);
            return compiles ? noted(folder) : List.of();
        } finally {
            remove(folder);
        }
    }

    private static List<Long> noted(Path folder) throws Exception {
        List<Long> got = new ArrayList<>();
        URL[] from = {folder.toUri().toURL()};
        try (URLClassLoader loader = new URLClassLoader(from, ReadmeTest.class.getClassLoader())) {
            loader.loadClass("ReadmeCode").getMethod("run", List.class).invoke(null, got);
        }
        return got;
    }

    private static void remove(Path folder) throws Exception {
        List<Path> all;
        try (Stream<Path> there = Files.walk(folder)) {
            all = there.sorted(Comparator.reverseOrder()).collect(Collectors.toList());
        }
        for (Path path : all) {
            Files.delete(path);
        }
    }
}
