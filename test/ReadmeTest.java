import java.io.IOException;
import java.lang.reflect.Method;
import java.lang.reflect.Modifier;
import java.net.URL;
import java.net.URLClassLoader;
import java.nio.file.Files;
import java.nio.file.Path;
import java.util.ArrayList;
import java.util.Comparator;
import java.util.List;
import java.util.TreeSet;
import java.util.regex.Matcher;
import java.util.regex.Pattern;
import java.util.stream.Stream;
import javax.tools.JavaCompiler;
import javax.tools.ToolProvider;

/**
 * What README.md (a file that -Dreadme names) tells of the class: its Java compiles, each call in it answers what stands
 * behind it, its tables name each call of the face as it is, and its tests and numbers are those that there are.
 */
public final class ReadmeTest extends Bench {
    private static final Pattern BLOCK = Pattern.compile("```java\n(.*?)```", Pattern.DOTALL);
    private static final Pattern SHOWN = Pattern.compile("(tree\\..*);\\s*// (-?\\d+|true|false|NoSuchElementException)(:.*|,.*)?");
    private static final Pattern CALL = Pattern.compile("\\| `((?:int|boolean) \\w+\\([^`]*\\))` \\|");
    private static final String TEXT = text();

    private ReadmeTest() {
    }

    public static void main(String[] args) throws Exception {
        of = "README.md";
        calls();
        limits();
        tests();
        examples();
        endTest("README.md holds");
    }

    private static String text() {
        try {
            return Files.readString(Path.of(System.getProperty("readme", "README.md")));
        } catch (IOException e) {
            throw new IllegalStateException("no README.md: tell its path by -Dreadme");
        }
    }

    // the tables

    private static void calls() {
        TreeSet<String> face = new TreeSet<>();
        for (Method method : TreeTalk.class.getDeclaredMethods()) {
            if (Modifier.isPublic(method.getModifiers())) {
                face.add(withoutNames(method));
            }
        }
        TreeSet<String> told = new TreeSet<>();
        Matcher call = CALL.matcher(TEXT);
        while (call.find()) {
            yes(call.group(1) + " is told once", told.add(withoutNames(call.group(1))));
            yes("the document has " + call.group(1), Document.says("public " + call.group(1)));
        }
        for (String one : face) {
            yes("tells " + one, told.contains(one));
        }
        for (String one : told) {
            yes("the class has " + one, face.contains(one));
        }
    }

    private static String withoutNames(Method method) {
        StringBuilder types = new StringBuilder();
        for (Class<?> type : method.getParameterTypes()) {
            types.append(types.length() > 0 ? ", " : "").append(type.getName());
        }
        return method.getReturnType().getName() + " " + method.getName() + "(" + types + ")";
    }

    private static String withoutNames(String call) {
        return call.replaceAll("(int|boolean) \\w+(?=[,)])", "$1");
    }

    // the numbers

    /** The sentence is put together of what the class takes, and must stand in README.md so. */
    private static void limits() {
        TreeTalk x = new TreeTalk();
        int elders = taken(x, "elder", 50);
        int matters = taken(x, "matter", 2, 2);
        int clashes = taken(x, "clash", 0, 0, 0, 0, 1, 0);
        int promises = taken(x, "promise", 0, 1, 0, 0, 0);
        int gifts = taken(x, "gift", 0, 0, 0, 0, 1, 0, 0);
        int asides = taken(x, "aside", 0, 1, 0, 0, 0, 1);
        int laws = 0;
        while (law(x, "s:1") != NONE) {
            laws++;
        }
        int minds = 0;
        while (mind(x, "n:1") != NONE) {
            minds++;
        }
        String sentence = "There are at most " + elders + " elders, " + matters + " matters, " + clashes
            + " clashes (of all elders in all matters), " + laws + " laws, " + minds + " minds, " + promises + " promises, "
            + gifts + " gifts and " + asides + " asides.";
        yes("tells: " + sentence, TEXT.replace('\n', ' ').contains(sentence));
    }

    private static int taken(TreeTalk x, String name, int... told) {
        boolean numbered = List.of("elder", "matter", "gift").contains(name);
        int times = 0;
        while (times < 100 && ask(x, name, told) != (numbered ? NONE : 0)) {
            times++;
        }
        return times;
    }

    private static void tests() throws IOException {
        Path beside = Path.of(System.getProperty("readme", "README.md")).toAbsolutePath().resolveSibling("test");
        List<String> there = new ArrayList<>();
        try (Stream<Path> files = Files.list(beside)) {
            files.forEach(file -> there.add("test/" + file.getFileName()));
        }
        for (String file : there) {
            yes("tells of " + file, TEXT.contains("`" + file + "`"));
        }
        Matcher file = Pattern.compile("`(test/\\w+\\.java)`").matcher(TEXT);
        while (file.find()) {
            yes("there is " + file.group(1), there.contains(file.group(1)));
        }
    }

    // the examples

    private static void examples() throws Exception {
        StringBuilder members = new StringBuilder();
        StringBuilder bodies = new StringBuilder();
        Matcher block = BLOCK.matcher(TEXT);
        int shown = 0;
        while (block.find()) {
            String code = block.group(1);
            if (code.startsWith("static ")) {
                members.append(code);
            } else {
                yes("makes an object: " + code, code.startsWith("TreeTalk tree = new TreeTalk();"));
                bodies.append("{\n").append(checked(code)).append("}\n");
                shown += (int) SHOWN.matcher(code).results().count();
            }
        }
        yes("shows some answers", shown > 0);
        String source = "import java.util.*;\nimport java.util.function.Supplier;\npublic final class Readme {\n" + members + SHOW
            + "public static List<String> wrong() {\n" + bodies + "return WRONG;\n}\n}\n";
        for (Object line : compiledAndRun(source)) {
            yes((String) line, false);
        }
    }

    private static final String SHOW = "private static final List<String> WRONG = new ArrayList<>();\n"
        + "private static void show(String call, Supplier<Object> made, String want) {\n"
        + "    String got;\n"
        + "    try { got = String.valueOf(made.get()); } catch (NoSuchElementException e) { got = \"NoSuchElementException\"; }\n"
        + "    if (!got.equals(want)) { WRONG.add(call + \" answers \" + got + \", told is \" + want); }\n"
        + "}\n";

    /** The lines of an example, those that tell an answer put as questions. */
    private static String checked(String code) {
        StringBuilder lines = new StringBuilder();
        for (String line : code.split("\n")) {
            Matcher shown = SHOWN.matcher(line);
            if (shown.matches()) {
                String call = shown.group(1);
                lines.append("show(\"").append(call.replace("\\", "\\\\").replace("\"", "\\\"")).append("\", () -> ")
                    .append(call).append(", \"").append(shown.group(2)).append("\");\n");
            } else {
                no("an answer that is not looked at: " + line, line.contains("//"));
                lines.append(line).append('\n');
            }
        }
        return lines.toString();
    }

    private static List<?> compiledAndRun(String source) throws Exception {
        Path out = Files.createTempDirectory("readme");
        try {
            Path file = Files.writeString(out.resolve("Readme.java"), source);
            String path = System.getProperty("java.class.path");
            JavaCompiler compiler = ToolProvider.getSystemJavaCompiler();
            yes("java has its compiler", compiler != null);
            if (compiler == null) {
                return List.of();
            }
            int bad = compiler.run(null, null, null, "-cp", path, "-d", out.toString(), file.toString());
            due("its Java compiles", bad, 0);
            if (bad != 0) {
                return List.of();
            }
            try (URLClassLoader loader = new URLClassLoader(new URL[] {out.toUri().toURL()})) {
                return (List<?>) loader.loadClass("Readme").getMethod("wrong").invoke(null);
            }
        } finally {
            remove(out);
        }
    }

    private static void remove(Path directory) throws IOException {
        try (Stream<Path> files = Files.walk(directory)) {
            for (Path file : files.sorted(Comparator.reverseOrder()).toList()) {
                Files.delete(file);
            }
        }
    }
}
