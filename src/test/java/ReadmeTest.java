import java.lang.reflect.Field;
import java.lang.reflect.Method;
import java.lang.reflect.Modifier;
import java.net.URL;
import java.net.URLClassLoader;
import java.nio.file.Files;
import java.nio.file.Path;
import java.util.ArrayList;
import java.util.Comparator;
import java.util.List;
import java.util.Set;
import java.util.TreeSet;
import java.util.function.BiConsumer;
import java.util.regex.Matcher;
import java.util.regex.Pattern;
import java.util.stream.Stream;
import javax.tools.ToolProvider;

/** README.md: its examples are compiled and answer as it says, its commands run, and it names all there is. */
public final class ReadmeTest {
    private static final Check CHECK = new Check();
    private static final Path README = Path.of("README.md"), TESTS = Path.of("src/test/java");
    private static final Pattern BLOCK = Pattern.compile("```(java|sh)\n(.*?)```", Pattern.DOTALL);
    /** A call and what it answers: a number or a constant, and why behind a colon. */
    private static final Pattern ANSWER = Pattern.compile("((?:x\\.\\w+|tell)\\(.*\\)); *// (-?\\d+|[A-Z]+)(: .*)?");
    private static final String DUE = "java.util.function.BiConsumer<String, long[]> due";
    private static final String MAKING = "FacingDoors x = new FacingDoors();";

    private static List<String> blocks(String page, String language) {
        List<String> all = new ArrayList<>();
        Matcher m = BLOCK.matcher(page);
        while (m.find()) {
            if (m.group(1).equals(language)) {
                all.add(m.group(2));
            }
        }
        return all;
    }

    // ---- the examples

    private static String quoted(String words) {
        return "\"" + words.replace("\\", "\\\\").replace("\"", "\\\"") + "\"";
    }

    /** A block's lines as those of a method that hands on what each call answers, and what it should. */
    private static String method(String block, int number, Set<String> called) {
        StringBuilder body = new StringBuilder();
        body.append("static void example" + number + "(" + DUE + ") {\n");
        for (String line : block.split("\n")) {
            Matcher m = ANSWER.matcher(line);
            if (m.matches()) {
                String want = Character.isLetter(m.group(2).charAt(0)) ? "FacingDoors." + m.group(2) : m.group(2) + "L";
                body.append("due.accept(" + quoted(line) + ", new long[] {" + m.group(1) + ", " + want + "});\n");
                called.add(m.group(1).replaceAll("^x\\.|\\(.*", ""));
            } else {
                CHECK.same("a line without an answer", line, MAKING);
                body.append(line).append('\n');
            }
        }
        return body.append("}\n").toString();
    }

    private static void examples(String page, Path folder) throws Exception {
        StringBuilder source = new StringBuilder("public final class ReadmeExamples {\n");
        StringBuilder all = new StringBuilder("public static void all(" + DUE + ") {\n");
        Set<String> called = new TreeSet<>();
        int many = 0;
        for (String block : blocks(page, "java")) {
            if (block.startsWith("static ")) {
                source.append(block);
            } else {
                many++;
                source.append(method(block, many, called));
                all.append("example" + many + "(due);\n");
            }
        }
        source.append(all).append("}\n}\n");
        Path file = Files.writeString(folder.resolve("ReadmeExamples.java"), source);
        int failed = ToolProvider.getSystemJavaCompiler().run(null, null, null, "-proc:none", "-cp",
            System.getProperty("java.class.path"), "-d", folder.toString(), file.toString());
        CHECK.due("the examples can't be compiled", failed, 0);
        if (failed == 0) {
            run(folder);
        }
        CHECK.due("examples", many > 0 ? 1 : 0, 1);
        for (Method m : FacingDoors.class.getDeclaredMethods()) {
            if (Modifier.isPublic(m.getModifiers())) {
                CHECK.due(m.getName() + " is in an example", called.contains(m.getName()) ? 1 : 0, 1);
            }
        }
    }

    private static void run(Path folder) throws Exception {
        int[] asked = {0};
        BiConsumer<String, long[]> due = (line, answer) -> {
            asked[0]++;
            CHECK.due("README.md: " + line, answer[0], answer[1]);
        };
        try (URLClassLoader loader = new URLClassLoader(new URL[] {folder.toUri().toURL()})) {
            loader.loadClass("ReadmeExamples").getMethod("all", BiConsumer.class).invoke(null, due);
        }
        CHECK.due("answers that the examples tell", asked[0] >= 27 ? 1 : 0, 1);
    }

    // ---- what it names

    /** Each call in a row of its own, with the names that the document gives to its numbers. */
    private static void calls(String page) throws Exception {
        Path document = Path.of("../shared/DOC.md");
        if (!Files.isReadable(document)) {
            System.out.println(document + " is not there: the calls' names are not looked up");
            return;
        }
        Matcher m = Pattern.compile("public (?:int|long) (\\w+)\\((.*)\\);").matcher(Files.readString(document));
        int many = 0;
        while (m.find()) {
            many++;
            String row = "\n| `" + m.group(1) + "(" + m.group(2).replace("int ", "") + ")` |";
            CHECK.due("a row for" + row, page.contains(row) ? 1 : 0, 1);
        }
        CHECK.due("calls", many, 27);
    }

    private static void constants(String page) throws Exception {
        int many = 0;
        for (Field f : FacingDoors.class.getFields()) {
            many++;
            String told = "`" + f.getName() + "` (" + f.getInt(null) + ")";
            CHECK.due(told + " is told", page.contains(told) ? 1 : 0, 1);
        }
        CHECK.due("constants", many, 5);
    }

    private static void tests(String page) throws Exception {
        Set<String> named = new TreeSet<>(), there = new TreeSet<>();
        Matcher m = Pattern.compile("`(\\w+Test)`").matcher(page.substring(page.indexOf("## Tests")));
        while (m.find()) {
            named.add(m.group(1));
        }
        try (Stream<Path> files = Files.list(TESTS)) {
            files.map(f -> f.getFileName().toString()).filter(f -> f.endsWith("Test.java"))
                .forEach(f -> there.add(f.replace(".java", "")));
        }
        CHECK.same("tests", named.toString(), there.toString());
    }

    // ---- its commands

    /** The folder for what is compiled is another one here; .ci/run runs this test, so it is not run again. */
    private static void commands(String page, Path folder) throws Exception {
        CHECK.due(".ci/run can be run", Files.isExecutable(Path.of(".ci/run")) ? 1 : 0, 1);
        int ran = 0;
        for (String block : blocks(page, "sh")) {
            for (String line : block.split("\n")) {
                if (!line.equals(".ci/run")) {
                    String command = line.replace(" build ", " " + folder + " ");
                    Process process = new ProcessBuilder("bash", "-c", command).redirectErrorStream(true).start();
                    String output = new String(process.getInputStream().readAllBytes());
                    CHECK.due(line + " ends with (" + output + ")", process.waitFor(), 0);
                    ran++;
                }
            }
        }
        CHECK.due("commands", ran, 2);
    }

    private static void remove(Path folder) throws Exception {
        try (Stream<Path> all = Files.walk(folder)) {
            for (Path p : all.sorted(Comparator.reverseOrder()).toList()) {
                Files.delete(p);
            }
        }
    }

    public static void main(String[] args) throws Exception {
        String page = Files.readString(README);
        Path folder = Files.createTempDirectory("readme");
        try {
            examples(page, folder);
            calls(page);
            constants(page);
            tests(page);
            commands(page, folder);
        } finally {
            remove(folder);
        }
        CHECK.end();
    }
}
