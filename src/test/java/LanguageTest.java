import java.lang.reflect.Constructor;
import java.lang.reflect.Field;
import java.lang.reflect.Method;
import java.lang.reflect.Modifier;
import java.nio.charset.StandardCharsets;
import java.nio.file.Files;
import java.nio.file.Path;
import java.util.Map;
import java.util.Set;
import java.util.TreeMap;
import java.util.TreeSet;
import java.util.regex.Matcher;
import java.util.regex.Pattern;

/** Rules of LANGUAGE.md that can be seen from the class or from its text. It is run at the project's root. */
public final class LanguageTest {
    private static final Due due = new Due();
    private static final Pattern METHOD =
            Pattern.compile("(?m)^( {4}| {8})(?!(?:if|for|while|switch|return) )(?:\\w+(?:\\[\\])? )*(\\w+)\\([^;={}\n]*\\) \\{$");
    private static final String FACE = "feed/2 wipe/0 town/0 coin/3 promise/4 promiseOf/2 change/3 drop/0 need/3 "
            + "needOf/2 cast/0 lay/1 kept/0 owes/1 brings/2 met/1 weight/1 chance/2 joint/4 sure/3 all/2 mean/2 "
            + "worth/2 harm/3 likely/1 fewest/3 cheapest/3 most/3 best/0 helps/0 hangs/1 asks/1 apart/2 tries/3 "
            + "seed/1 hold/2 as/2 sheet/3 write/3 copy/5 load/1 judge/1 image/0 undo/0 tear/0 count/1 status/1";

    public static void main(String[] args) throws Exception {
        face();
        members(PromiseCoins.class);
        for (Class<?> inside : PromiseCoins.class.getDeclaredClasses()) {
            due.at(inside.getName());
            due.holds("static and not public", Modifier.isStatic(inside.getModifiers())
                    && !Modifier.isPublic(inside.getModifiers()) && !Modifier.isProtected(inside.getModifiers()));
            members(inside);
        }
        documentsFace();
        text();
        due.end();
    }

    private static void face() {
        due.at("rule 1");
        Set<String> want = new TreeSet<>(Set.of(FACE.split(" ")));
        Set<String> got = new TreeSet<>();
        for (Method m : PromiseCoins.class.getDeclaredMethods()) {
            if (Modifier.isPublic(m.getModifiers())) {
                got.add(m.getName() + "/" + m.getParameterCount());
                due.holds(m.getName() + " answers an int and is no static one",
                        m.getReturnType() == int.class && !Modifier.isStatic(m.getModifiers()));
            } else {
                due.holds(m.getName() + " is private", Modifier.isPrivate(m.getModifiers()));
            }
        }
        due.holds("the face: " + got, got.equals(want));
        for (Field f : PromiseCoins.class.getDeclaredFields()) {
            due.holds(f.getName() + " is private", Modifier.isPrivate(f.getModifiers()));
        }
        Constructor<?>[] made = PromiseCoins.class.getDeclaredConstructors();
        due.holds("one public constructor", made.length == 1 && Modifier.isPublic(made[0].getModifiers())
                && made[0].getParameterCount() == 0);
        due.holds("public and final", Modifier.isPublic(PromiseCoins.class.getModifiers())
                && Modifier.isFinal(PromiseCoins.class.getModifiers()));
    }

    /** Each line of the document's face, with the names of its numbers, and each heading ahead of its calls. */
    private static void documentsFace() throws Exception {
        due.at("the document's face");
        String document = Files.readString(Path.of("../shared/DOC.md"));
        String text = Files.readString(Path.of("src/main/java/PromiseCoins.java"));
        int begin = document.indexOf("public final class PromiseCoins {");
        int lines = 0;
        for (String line : document.substring(begin, document.indexOf("```", begin)).split("\n")) {
            if (line.endsWith(";")) {
                due.holds(line, text.contains("\n" + line.replace(";", " {") + "\n"));
                lines++;
            }
        }
        due.is("constructor and methods", lines, 48);
        Matcher m = Pattern.compile("Ahead of the calls `(\\w+)`.*: (---- .*)\\.").matcher(document);
        int headings = 0;
        while (m.find()) {
            String ahead = "    // " + m.group(2) + "\n\n    public int " + m.group(1) + "(";
            due.holds(m.group(2), text.contains(ahead));
            headings++;
        }
        due.is("headings", headings, 7);
    }

    private static void members(Class<?> c) {
        int fields = 0;
        for (Field f : c.getDeclaredFields()) {
            if (Modifier.isStatic(f.getModifiers())) {
                due.holds("static " + f.getName() + " is final", Modifier.isFinal(f.getModifiers()));
            } else {
                fields++;
            }
        }
        due.holds("some twenty fields in " + c.getName(), fields <= 20);
        for (Method m : c.getDeclaredMethods()) {
            due.holds(m.getName() + " takes at most seven", m.getParameterCount() <= 7);
            boolean isPublic = c == PromiseCoins.class && Modifier.isPublic(m.getModifiers());
            due.holds(m.getName() + " bears no public one's name", isPublic || !FACE.matches("(.* |)" + m.getName() + "/.*"));
        }
    }

    private static void text() throws Exception {
        due.at("text");
        String text = Files.readString(Path.of("src/main/java/PromiseCoins.java"), StandardCharsets.ISO_8859_1);
        due.holds("signs 1 to 127", text.chars().allMatch(c -> c > 0 && c < 128));
        String bare = text.replaceAll("(?s)/\\*.*?\\*/", "").replaceAll("//[^\n]*", "")
                .replaceAll("\"[^\"\n]*\"", "\"\"");
        for (String word : ("throw throws try catch finally synchronized assert package import protected Object "
                + "equals hashCode toString getClass volatile transient native default\\s+void lambda").split(" ")) {
            due.holds("no " + word, !Pattern.compile("\\b" + word + "\\b").matcher(bare).find());
        }
        due.holds("no lambda or method reference", !bare.contains("->") && !bare.contains("::"));
        due.holds("no static block", !Pattern.compile("static\\s*\\{").matcher(bare).find());
        due.holds("no library but Math, Integer, System.arraycopy",
                !Pattern.compile("\\b(System\\.(?!arraycopy)|Long\\.|Arrays|String\\.|Math\\.\\w*Exact|Thread|Runtime)")
                        .matcher(bare).find());
        lengths(bare);
        depths(bare);
        makesNothingInCalls(bare);
    }

    private static void lengths(String bare) {
        Matcher m = METHOD.matcher(bare);
        int methods = 0;
        while (m.find()) {
            int end = bare.indexOf("\n" + m.group(1) + "}", m.end());
            long lines = bare.substring(m.start(), end).lines().count();
            methods++;
            due.holds(m.group().trim() + " has " + lines + " lines", lines <= 60);
        }
        due.holds("methods were found: " + methods, methods > 100);
    }

    /** Methods are told apart by name alone: so a depth may be told too great, never too small. */
    private static void depths(String bare) {
        Map<String, Set<String>> calls = new TreeMap<>();
        Matcher m = METHOD.matcher(bare);
        while (m.find()) {
            String body = bare.substring(m.end(), bare.indexOf("\n" + m.group(1) + "}", m.end()));
            Set<String> called = calls.computeIfAbsent(m.group(2), k -> new TreeSet<>());
            Matcher call = Pattern.compile("\\b(\\w+)\\(").matcher(body);
            while (call.find()) {
                called.add(call.group(1));
            }
        }
        for (String from : calls.keySet()) {
            int depth = depth(from, calls, 0);
            due.holds("calls from " + from + " go " + depth + " deep", depth <= 8);
        }
    }

    private static int depth(String from, Map<String, Set<String>> calls, int above) {
        int deepest = 0;
        if (above < 20) {
            for (String to : calls.getOrDefault(from, Set.of())) {
                deepest = Math.max(deepest, depth(to, calls, above + 1));
            }
        }
        return 1 + deepest;
    }

    /** All calls of a run live in one room: rows are made with the object, and never by a call. */
    private static void makesNothingInCalls(String bare) {
        Matcher m = Pattern.compile("(?m)^.*\\bnew\\b.*$").matcher(bare);
        while (m.find()) {
            String line = m.group().trim();
            boolean isField = line.startsWith("final ");
            boolean isInConstructor = m.start() > bare.indexOf("public PromiseCoins()")
                    && m.start() < bare.indexOf("public int feed");
            due.holds("made with the object: " + line, isField || isInConstructor);
        }
    }
}
