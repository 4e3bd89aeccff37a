import java.io.IOException;
import java.nio.charset.StandardCharsets;
import java.nio.file.Files;
import java.nio.file.Path;
import java.util.ArrayList;
import java.util.HashMap;
import java.util.HashSet;
import java.util.List;
import java.util.Map;
import java.util.Set;
import java.util.regex.Matcher;
import java.util.regex.Pattern;

/**
 * Looks at the class's text for what ../shared/LANGUAGE.md forbids, as far as a text shows it. It does not replace
 * reading: types and the ends of loops are not understood here.
 */
public final class LanguageTest {
    private static final Pattern METHOD = Pattern.compile(
        "^(    |        )((?:public |private |static |final )*)([A-Za-z\\[\\]]+ )?([A-Za-z]+)\\(([^()]*)\\) \\{$");
    private static final int MOST_LINES = 60, MOST_PARAMETERS = 7, MOST_CLASSES = 12, MOST_FIELDS = 20, DEEPEST = 8;
    /** These call one another on purpose, with a depth as their argument. */
    private static final Set<String> RECURSIVE = Set.of("anyOf", "allOf", "one", "not", "inBrackets", "run", "does");

    private static int wrong = 0;

    private static void fault(String what) {
        wrong++;
        System.out.println(what);
    }

    private static String withoutTexts(String source) {
        return source.replaceAll("(?s)/\\*.*?\\*/", " ").replaceAll("//[^\n]*", " ")
            .replaceAll("\"(\\\\.|[^\"\\\\])*\"", "\"\"").replaceAll("'(\\\\.|[^'\\\\])'", "' '");
    }

    private static void forbidden(String code, String rule, String regex) {
        Matcher m = Pattern.compile(regex).matcher(code);
        while (m.find()) {
            fault("rule " + rule + ": " + m.group());
        }
    }

    private static void words(String code) {
        forbidden(code, "6", "\\b(throw|throws|try|catch|finally|synchronized|assert|instanceof)\\b");
        forbidden(code, "1", "\\b(import|package|protected|native|transient|volatile)\\b");
        forbidden(code, "2", "->|::|\\benum\\b|\\binterface\\b|\\brecord\\b");
        forbidden(code, "3", "\\b(double|float|Object|var|Map|Set|HashMap)\\b");
        forbidden(code, "4", "Exact\\b|\\bSystem\\.(?!arraycopy)|\\bArrays\\b|\\bStringBuilder\\b|\\bString\\.");
        forbidden(code, "4", "\\bMath\\.(?!max|min|floorMod)|\\bInteger\\.(?!bitCount)");
        forbidden(code, "5", "\\bstatic (?!final\\b|int |boolean |long )[^c]");
        forbidden(code, "6", "\\b(equals|hashCode|toString)\\b");
        forbidden(code, "10", "\"\" *\\+|\\+ *\"\"");
        forbidden(code, "9", "\\bwhile\\b|for \\(;;|\\bgoto\\b");
    }

    /** Only fields and the public constructor make objects, so that no call fills the room. */
    private static void makings(String code) {
        for (String line : code.split("\n")) {
            boolean field = line.matches(" +(private )?final .*= new .*;");
            boolean inConstructor = line.matches(
                " +(offices\\[i\\] = new Office\\(\\)|tapes\\[i\\] = new Tape\\(\\)|drawers\\[i\\] = new Drawer\\(i\\));")
                || line.matches(" +(first|second|third) = new int\\[this\\.most\\];");
            if (line.contains("new ") && !field && !inConstructor) {
                fault("makes an object: " + line.trim());
            }
        }
    }

    private static Map<String, Set<String>> methods(String code, Set<String> publicNames, List<String> privateNames) {
        Map<String, Set<String>> calls = new HashMap<>();
        String[] lines = code.split("\n");
        for (int i = 0; i < lines.length; i++) {
            Matcher m = METHOD.matcher(lines[i]);
            if (!m.matches()) {
                continue;
            }
            String name = m.group(4);
            (m.group(2).contains("public") ? publicNames : privateNames).add(name);
            int parameters = m.group(5).isBlank() ? 0 : m.group(5).split(",").length;
            if (parameters > MOST_PARAMETERS) {
                fault("rule 11: " + name + " takes " + parameters);
            }
            int end = i;
            StringBuilder body = new StringBuilder();
            while (!lines[end].equals(m.group(1) + "}")) {
                end++;
                body.append(lines[end]).append('\n');
            }
            if (end - i + 1 > MOST_LINES) {
                fault("rule 11: " + name + " has " + (end - i + 1) + " lines");
            }
            Set<String> called = calls.computeIfAbsent(name, k -> new HashSet<>());
            Matcher c = Pattern.compile("\\b([a-z][A-Za-z]*)\\(").matcher(body);
            while (c.find()) {
                called.add(c.group(1));
            }
        }
        return calls;
    }

    /** Functions of the same name count as one here, so this is at least as deep as what is. */
    private static int depth(String name, Map<String, Set<String>> calls, int above) {
        if (above > 40) {
            return above;
        }
        int deepest = 0;
        for (String called : calls.getOrDefault(name, Set.of())) {
            if (calls.containsKey(called) && !called.equals(name)
                    && !(RECURSIVE.contains(name) && RECURSIVE.contains(called))) {
                deepest = Math.max(deepest, depth(called, calls, above + 1));
            }
        }
        return deepest + 1;
    }

    private static void classes(String code) {
        int classes = 0;
        Map<String, Integer> fields = new HashMap<>();
        String inside = "";
        for (String line : code.split("\n")) {
            Matcher m = Pattern.compile("(?:public|private static) final class (\\w+).*").matcher(line.trim());
            if (m.matches()) {
                classes++;
                inside = m.group(1);
            }
            String indent = inside.equals("LostSheets") ? "    " : "        ";
            if (line.matches(indent + "(private )?(final )?[A-Za-z]+(\\[\\])? \\w+( = .*)?;")
                    && !line.trim().startsWith("return")) {
                fields.merge(inside, 1, Integer::sum);
            }
            if (line.trim().startsWith("class ") || line.contains(" class ") && !m.matches()) {
                fault("rule 2: " + line.trim());
            }
        }
        if (classes > MOST_CLASSES) {
            fault("rule 11: " + classes + " classes");
        }
        fields.forEach((name, n) -> {
            if (n > MOST_FIELDS) {
                fault("rule 11: " + name + " has " + n + " fields");
            }
        });
    }

    public static void main(String[] args) throws IOException {
        String source = Files.readString(Path.of(args[0]), StandardCharsets.ISO_8859_1);
        for (int i = 0; i < source.length(); i++) {
            if (source.charAt(i) > 126) {
                fault("rule 4: a sign above 126 at " + i);
            }
        }
        String code = withoutTexts(source);
        words(code);
        makings(code);
        classes(code);
        Set<String> publicNames = new HashSet<>();
        List<String> privateNames = new ArrayList<>();
        Map<String, Set<String>> calls = methods(code, publicNames, privateNames);
        for (String name : privateNames) {
            if (publicNames.contains(name)) {
                fault("rule 1: a function inside is named " + name);
            }
        }
        for (String name : publicNames) {
            int depth = depth(name, calls, 0);
            if (depth > DEEPEST) {
                fault("rule 11: " + name + " goes " + depth + " deep");
            }
        }
        if (publicNames.size() != 33) {
            fault("the face has " + publicNames.size() + " names, with the constructor's 33 are due");
        }
        System.out.println(wrong == 0 ? "nothing forbidden was seen" : wrong + " things are forbidden");
        if (wrong != 0) {
            System.exit(1);
        }
    }
}
