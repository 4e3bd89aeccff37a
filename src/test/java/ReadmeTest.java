import java.io.File;
import java.io.IOException;
import java.lang.reflect.Field;
import java.lang.reflect.Method;
import java.lang.reflect.Modifier;
import java.net.URL;
import java.net.URLClassLoader;
import java.nio.charset.StandardCharsets;
import java.nio.file.Files;
import java.nio.file.Path;
import java.util.ArrayList;
import java.util.Comparator;
import java.util.List;
import java.util.Locale;
import java.util.Set;
import java.util.TreeSet;
import java.util.regex.Matcher;
import java.util.regex.Pattern;
import java.util.stream.Collectors;
import java.util.stream.Stream;
import javax.tools.JavaCompiler;
import javax.tools.ToolProvider;

/**
 * Whether what README.md says is so: each example answers the number behind its //, every call stands under the
 * heading that the document gives it, with its parameters, and every constant with its number, every test by name.
 */
public final class ReadmeTest {
    private static final Path README = Path.of("README.md");
    private static final Pattern ASKED = Pattern.compile(
        "^(\\S.*);\\s*// (NONE|BAD|STATE|FULL|NO|-?\\d+)(:.*)?$");
    private static final Pattern CALL = Pattern.compile("^\\| `([a-z]+)\\(([^)]*)\\)` \\|.*\\|$");
    private static final Pattern CONSTANT = Pattern.compile("^\\| `([A-Z]+)` \\| (-?\\d+) \\|.*\\|$");
    /** The document's headings ("Ahead of the calls .. the interface says: ---- .."), and the calls behind each. */
    private static final String[][] GROUPS = {
        {"drawers, marks, offices", "drawer", "of", "sheet", "put", "anew", "mark", "row", "feed", "office", "told"},
        {"hours", "pass", "on", "best"},
        {"seen, odds", "see", "can", "odds", "mean"},
        {"plans, books", "plan", "ends", "book", "looked"},
        {"judging, the image, acts, tapes", "judge", "image", "undo", "act", "trace", "taken", "count", "tape", "item",
            "read", "shift"}};
    private static final int EXAMPLES_AT_LEAST = 100;

    private static int wrong = 0;

    private static void fault(String what) {
        wrong++;
        System.out.println("README.md: " + what);
    }

    // ---- calls and constants

    /** Each call that the page's tables name, as its heading, its name and how many parameters it has. */
    private static Set<String> callsOfThePage(List<String> page) {
        Set<String> calls = new TreeSet<>();
        String heading = "";
        for (String line : page) {
            if (line.startsWith("#")) {
                heading = line.replaceFirst("^#+ ", "").toLowerCase(Locale.ROOT);
            }
            Matcher m = CALL.matcher(line);
            if (m.matches() && !calls.add(heading + ": " + m.group(1) + " " + parameters(m.group(2)))) {
                fault("twice: " + m.group(1));
            }
        }
        return calls;
    }

    private static int parameters(String list) {
        return list.isEmpty() ? 0 : list.split(", ").length;
    }

    private static Set<String> callsOfTheDocument() {
        Set<String> calls = new TreeSet<>();
        for (String[] group : GROUPS) {
            for (int i = 1; i < group.length; i++) {
                calls.add(group[0] + ": " + group[i] + " " + parametersOf(group[i]));
            }
        }
        return calls;
    }

    private static int parametersOf(String name) {
        for (Method m : LostSheets.class.getMethods()) {
            if (m.getName().equals(name) && m.getDeclaringClass() == LostSheets.class) {
                return m.getParameterCount();
            }
        }
        return -1;
    }

    private static void same(String about, Set<String> said, Set<String> is) {
        Set<String> missing = new TreeSet<>(is);
        missing.removeAll(said);
        Set<String> tooMuch = new TreeSet<>(said);
        tooMuch.removeAll(is);
        if (!missing.isEmpty() || !tooMuch.isEmpty()) {
            fault(about + ": missing " + missing + ", not so " + tooMuch);
        }
    }

    private static void constants(List<String> page) throws IllegalAccessException {
        Set<String> said = new TreeSet<>();
        for (String line : page) {
            Matcher m = CONSTANT.matcher(line);
            if (m.matches()) {
                said.add(m.group(1) + " " + m.group(2));
            }
        }
        Set<String> is = new TreeSet<>();
        for (Field f : LostSheets.class.getFields()) {
            if (Modifier.isStatic(f.getModifiers())) {
                is.add(f.getName() + " " + f.get(null));
            }
        }
        same("constants", said, is);
    }

    private static void tests(List<String> page) throws IOException {
        Set<String> said = new TreeSet<>();
        Matcher m = Pattern.compile("`([A-Za-z]+Test)`").matcher(String.join("\n", page));
        while (m.find()) {
            said.add(m.group(1));
        }
        try (Stream<Path> files = Files.list(Path.of("src/test/java"))) {
            same("tests", said, files.map(f -> f.getFileName().toString()).filter(f -> f.endsWith("Test.java"))
                .map(f -> f.replace(".java", "")).collect(Collectors.toCollection(TreeSet::new)));
        }
    }

    // ---- examples

    private static List<List<String>> examples(List<String> page) {
        List<List<String>> all = new ArrayList<>();
        List<String> open = null;
        for (String line : page) {
            if (line.equals("```java")) {
                open = new ArrayList<>();
            } else if (line.equals("```") && open != null) {
                all.add(open);
                open = null;
            } else if (open != null) {
                open.add(line);
            }
        }
        return all;
    }

    /** A class whose wrong() runs all examples: a block that begins with static stays, each other is its own. */
    private static String program(List<List<String>> examples) {
        StringBuilder functions = new StringBuilder();
        StringBuilder runs = new StringBuilder();
        int asked = 0;
        for (List<String> block : examples) {
            if (block.get(0).startsWith("static ")) {
                functions.append(String.join("\n", block)).append('\n');
                continue;
            }
            runs.append("{\n");
            for (String line : block) {
                Matcher m = ASKED.matcher(line);
                if (m.matches()) {
                    asked++;
                    runs.append(due(m.group(1), m.group(2)));
                } else if (line.equals("LostSheets x = new LostSheets();")) {
                    runs.append(line).append('\n');
                } else {
                    fault("an example's line does not tell its answer: " + line);
                }
            }
            runs.append("}\n");
        }
        if (asked < EXAMPLES_AT_LEAST) {
            fault("only " + asked + " examples were found");
        }
        return "public final class ReadmeExamples {\nprivate static int wrong = 0;\n"
            + "private static void due(String call, long got, long want) {\nif (got != want) {\nwrong++;\n"
            + "System.out.println(\"README.md: \" + call + \" answered \" + got + \", it says \" + want);\n}\n}\n"
            + functions + "public static int wrong() {\n" + runs + "return wrong;\n}\n}\n";
    }

    private static String due(String call, String answer) {
        String number = Character.isUpperCase(answer.charAt(0)) ? "LostSheets." + answer : answer + "L";
        return "due(\"" + call.replace("\"", "'") + "\", " + call + ", " + number + ");\n";
    }

    private static void run(String program) throws IOException, ReflectiveOperationException {
        JavaCompiler javac = ToolProvider.getSystemJavaCompiler();
        if (javac == null) {
            fault("there is no javac to compile its examples");
            return;
        }
        Path made = Files.createTempDirectory("readme");
        try {
            Path source = made.resolve("ReadmeExamples.java");
            Files.writeString(source, program, StandardCharsets.UTF_8);
            int failed = javac.run(null, null, null, "-encoding", "UTF-8", "-d", made.toString(), "-cp",
                System.getProperty("java.class.path"), source.toString());
            if (failed != 0) {
                fault("its examples do not compile");
                return;
            }
            try (URLClassLoader loader = new URLClassLoader(new URL[] {made.toUri().toURL()})) {
                wrong += (int) loader.loadClass("ReadmeExamples").getMethod("wrong").invoke(null);
            }
        } finally {
            takeAway(made);
        }
    }

    private static void takeAway(Path made) throws IOException {
        try (Stream<Path> files = Files.walk(made)) {
            files.sorted(Comparator.reverseOrder()).map(Path::toFile).forEach(File::delete);
        }
    }

    public static void main(String[] args) throws IOException, ReflectiveOperationException {
        List<String> page = Files.readAllLines(README, StandardCharsets.UTF_8);
        same("calls", callsOfThePage(page), callsOfTheDocument());
        constants(page);
        tests(page);
        run(program(examples(page)));
        System.out.println(wrong == 0 ? "README.md is so" : wrong + " things in README.md are not so");
        if (wrong != 0) {
            System.exit(1);
        }
    }
}
