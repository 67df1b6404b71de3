import java.lang.reflect.Method;
import java.lang.reflect.Modifier;
import java.net.URL;
import java.net.URLClassLoader;
import java.nio.file.Files;
import java.nio.file.Path;
import java.util.ArrayList;
import java.util.List;
import java.util.Set;
import java.util.TreeSet;
import java.util.regex.Matcher;
import java.util.regex.Pattern;
import java.util.stream.Stream;
import javax.tools.ToolProvider;

/**
 * README.md: its examples answer as they say, its tables tell the calls, findings and kinds that there are,
 * and its lists tell the tests that there are. It is run at the project's root.
 */
public final class ReadmeTest {
    private static final Due due = new Due();
    private static final String BEGIN = "PromiseCoins x = new PromiseCoins();";
    private static final Pattern SHOWN = Pattern.compile("(\\S.*\\));\\s+// (-?\\d+)(?:: .*)?");
    private static final Pattern CALL = Pattern.compile("`(\\w+)\\(([^)`]*)\\)`");

    public static void main(String[] args) throws Exception {
        String text = Files.readString(Path.of("README.md"));
        examples(text);
        calls(text);
        findings(text);
        kinds(text);
        tests(text);
        commands(text);
        due.end();
    }

    /** The lines of all blocks are one run; a block that begins with a function stands beside it. */
    private static void examples(String text) throws Exception {
        due.at("README, examples");
        StringBuilder functions = new StringBuilder();
        StringBuilder run = new StringBuilder();
        List<String> shown = new ArrayList<>();
        List<Integer> wanted = new ArrayList<>();
        Set<String> called = new TreeSet<>();
        Matcher block = Pattern.compile("(?s)```java\n(.*?)```").matcher(text);
        while (block.find()) {
            if (block.group(1).startsWith("static")) {
                functions.append(block.group(1));
                continue;
            }
            for (String line : block.group(1).split("\n")) {
                Matcher m = SHOWN.matcher(line);
                if (line.equals(BEGIN)) {
                    run.append(line).append('\n');
                } else if (m.matches()) {
                    run.append("told[").append(shown.size()).append("] = ").append(m.group(1)).append(";\n");
                    shown.add(m.group(1));
                    wanted.add(Integer.valueOf(m.group(2)));
                    called.add(m.group(1).replaceAll("^x\\.(\\w+).*", "$1"));
                } else {
                    due.holds("an answer stands behind: " + line, false);
                }
            }
        }
        int[] told = answers(functions.toString(), run.toString(), shown.size());
        for (int i = 0; i < told.length; i++) {
            due.is(shown.get(i), told[i], wanted.get(i));
        }
        due.holds("no more than 512 calls", told.length > 50 && told.length < 400);
        for (String call : face()) {
            String name = call.replaceAll("/.*", "");
            boolean isCalled = called.contains(name) || functions.indexOf("x." + name + "(") >= 0;
            due.holds("an example of " + name, isCalled);
        }
    }

    private static int[] answers(String functions, String run, int calls) throws Exception {
        Path folder = Path.of("build", "readme");
        Files.createDirectories(folder);
        Path source = folder.resolve("ReadmeExamples.java");
        Files.writeString(source, "public final class ReadmeExamples {\n" + functions
                + "public static int[] run() {\nint[] told = new int[" + calls + "];\n" + run + "return told;\n}\n}\n");
        int failed = ToolProvider.getSystemJavaCompiler().run(null, null, null, "--release", "17",
                "-cp", System.getProperty("java.class.path"), "-d", folder.toString(), source.toString());
        due.is("the examples compile", failed, 0);
        if (failed != 0) {
            return new int[0];
        }
        try (URLClassLoader loader = new URLClassLoader(new URL[] {folder.toUri().toURL()},
                ReadmeTest.class.getClassLoader())) {
            return (int[]) loader.loadClass("ReadmeExamples").getMethod("run").invoke(null);
        }
    }

    private static Set<String> face() {
        Set<String> face = new TreeSet<>();
        for (Method m : PromiseCoins.class.getDeclaredMethods()) {
            if (Modifier.isPublic(m.getModifiers())) {
                face.add(m.getName() + "/" + m.getParameterCount());
            }
        }
        return face;
    }

    private static void calls(String text) {
        due.at("README, tables of calls");
        Set<String> told = new TreeSet<>();
        for (String line : text.split("\n")) {
            if (line.startsWith("| `")) {
                Matcher m = CALL.matcher(line.split("\\|")[1]);
                while (m.find()) {
                    String call = m.group(1) + "/" + (m.group(2).isEmpty() ? 0 : m.group(2).split(",").length);
                    due.holds(call + " is told once", told.add(call));
                }
            }
        }
        due.holds("calls that are told: " + told, told.equals(face()));
    }

    private static void findings(String text) {
        due.at("README, table of findings");
        String[] names = {"BEYOND", "FULL", "KIND", "NONE", "STATE", "MISSING", "SIZE"};
        Matcher m = Pattern.compile("(?m)^\\| (-\\d+) \\| (\\w+) +\\| (\\d) \\| .* \\|$").matcher(text);
        int rows = 0;
        while (m.find()) {
            due.is("answer of row " + rows, Integer.parseInt(m.group(1)), Due.BEYOND - rows);
            due.is("status of row " + rows, Integer.parseInt(m.group(3)), rows);
            due.holds("name of row " + rows, rows < names.length && names[rows].equals(m.group(2)));
            rows++;
        }
        due.is("findings", rows, names.length);
    }

    /** Each kind is itself, what the table says that it is, and what that one is: all else is KIND. */
    private static void kinds(String text) {
        due.at("README, table of kinds");
        List<String> names = new ArrayList<>();
        List<Set<Integer>> under = new ArrayList<>();
        Matcher m = Pattern.compile("(?m)^\\| (\\d) \\| ([A-Z]+)(?:, an? ([A-Z]+)(?: one)?)? \\| .* \\|$").matcher(text);
        List<String> above = new ArrayList<>();
        while (m.find()) {
            due.is(m.group(2), Integer.parseInt(m.group(1)), names.size());
            names.add(m.group(2));
            above.add(m.group(3));
        }
        due.is("kinds", names.size(), 7);
        for (int kind = 0; kind < names.size(); kind++) {
            PromiseCoins x = new PromiseCoins();
            x.promise(kind, 0, 0, 1);
            x.hold(0, 0);
            under.add(new TreeSet<>());
            for (String name = names.get(kind); name != null; name = above.get(names.indexOf(name))) {
                under.get(kind).add(names.indexOf(name));
            }
            for (int k = 0; k < names.size(); k++) {
                due.is(names.get(kind) + " as " + names.get(k), x.as(0, k), under.get(kind).contains(k) ? 0 : Due.KIND);
            }
        }
    }

    private static void tests(String text) throws Exception {
        due.at("README, list of tests");
        Set<String> told = new TreeSet<>();
        Matcher m = Pattern.compile("`(\\w+Test)`").matcher(text.substring(text.indexOf("## How to run its tests")));
        while (m.find()) {
            due.holds(m.group(1) + " is told once", told.add(m.group(1)));
        }
        Set<String> found = new TreeSet<>();
        try (Stream<Path> files = Files.list(Path.of("src/test/java"))) {
            files.map(f -> f.getFileName().toString()).filter(f -> f.endsWith("Test.java"))
                    .forEach(f -> found.add(f.replace(".java", "")));
        }
        due.holds("tests that are told: " + told + ", that there are: " + found, told.equals(found));
    }

    /** The lines that are shown for a shell run; .ci/run itself is running now. */
    private static void commands(String text) throws Exception {
        due.at("README, commands");
        int shown = 0;
        for (String line : text.split("\n")) {
            if (!line.startsWith("    ") || !line.matches(" {4}(javac|java|\\.ci)\\b?.*")) {
                continue;
            }
            shown++;
            String command = line.trim();
            if (command.equals(".ci/run")) {
                due.holds(".ci/run can be run", Files.isExecutable(Path.of(".ci/run")));
            } else {
                due.is(command, new ProcessBuilder("sh", "-c", command).start().waitFor(), 0);
            }
        }
        due.is("commands", shown, 3);
    }
}
