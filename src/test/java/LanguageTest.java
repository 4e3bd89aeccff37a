import java.io.IOException;
import java.lang.reflect.Constructor;
import java.lang.reflect.Field;
import java.lang.reflect.Method;
import java.lang.reflect.Modifier;
import java.nio.charset.StandardCharsets;
import java.nio.file.Files;
import java.nio.file.Path;
import java.util.ArrayList;
import java.util.HashMap;
import java.util.HashSet;
import java.util.List;
import java.util.Map;
import java.util.Set;
import java.util.TreeSet;
import java.util.regex.Matcher;
import java.util.regex.Pattern;

/**
 * Looks at the class, and at its text, for what ../shared/LANGUAGE.md forbids, as far as both show it. It does not
 * replace reading: what a loop's end is, or whether an index was looked at, is not understood here.
 */
public final class LanguageTest {
    private static final String[] FACE = {
        "int drawer(int, int, int)", "int of(int, int)", "int sheet(int, int)", "int put(int, int)", "int anew(int)",
        "int mark(int, int)", "int row(int, int, int)", "int feed(int)", "int office()", "int told(int)",
        "int pass(int)", "int on(int, int)", "int best(int, int)", "int see(int, int, int)", "int can(int, int)",
        "long odds(int, int, int)", "long mean(int, int)", "int plan(int, int)", "int ends(int)", "int book(int, int)",
        "int looked()", "int judge(int, int)", "int image()", "int undo()", "int act(int, int, int)", "int trace(int)",
        "int taken(int, int)", "int count(int)", "int tape(int, int, int)", "int item(int, int, long)",
        "long read(int, int)", "int shift(int, int, int, int, int)"};
    private static final Pattern METHOD = Pattern.compile(
        "^(    |        )((?:public |private |static |final )*)([A-Za-z\\[\\]]+ )?([A-Za-z]+)\\(([^()]*)\\) \\{$");
    private static final int MOST_LINES = 60, MOST_PARAMETERS = 7, MOST_CLASSES = 12, MOST_FIELDS = 20, DEEPEST = 8;
    private static final Set<Class<?>> CONSTANTS = Set.of(int.class, long.class, boolean.class, char.class,
        String.class, int[].class, long[].class, char[].class, byte[].class);
    private static final Set<String> LIBRARY = Set.of("java.lang.String", "java.lang.StringBuilder",
        "java.lang.Integer", "java.util.ArrayList", "java.util.List");
    /** These call one another on purpose, with a depth as their argument. */
    private static final Set<String> RECURSIVE = Set.of("anyOf", "allOf", "one", "not", "inBrackets", "run", "does");

    private static int wrong = 0;

    private static void fault(String what) {
        wrong++;
        System.out.println(what);
    }

    // ---- the class

    private static String face(Method m) {
        StringBuilder s = new StringBuilder(m.getReturnType().getSimpleName()).append(' ').append(m.getName())
            .append('(');
        for (Class<?> p : m.getParameterTypes()) {
            s.append(s.charAt(s.length() - 1) == '(' ? "" : ", ").append(p.getSimpleName());
        }
        return s.append(')').toString();
    }

    private static void face() {
        Set<String> open = new TreeSet<>();
        for (Method m : LostSheets.class.getDeclaredMethods()) {
            if (!m.isSynthetic() && !Modifier.isPrivate(m.getModifiers())) {
                open.add(face(m));
                if (!Modifier.isPublic(m.getModifiers()) || Modifier.isStatic(m.getModifiers())) {
                    fault("rule 1: " + m);
                }
            }
        }
        if (!open.equals(new TreeSet<>(Set.of(FACE)))) {
            fault("rule 1: the face is " + open);
        }
        if (!Modifier.isFinal(LostSheets.class.getModifiers())) {
            fault("rule 1: the class is not final");
        }
        for (Constructor<?> c : LostSheets.class.getDeclaredConstructors()) {
            if (!c.isSynthetic() && (!Modifier.isPublic(c.getModifiers()) || c.getParameterCount() != 0)) {
                fault("rule 1: " + c);
            }
        }
        Set<String> fields = new TreeSet<>();
        for (Field f : LostSheets.class.getDeclaredFields()) {
            if (!f.isSynthetic() && !Modifier.isPrivate(f.getModifiers())) {
                fields.add(f.toString());
            }
        }
        String constant = "public static final int LostSheets.";
        if (!fields.equals(new TreeSet<>(Set.of(constant + "NONE", constant + "BAD", constant + "STATE",
                constant + "FULL", "public static final long LostSheets.NO")))) {
            fault("rule 1: the constants are " + fields);
        }
    }

    private static void typeOf(Field f) {
        Class<?> type = f.getType();
        int dimensions = 0;
        while (type.isArray()) {
            type = type.getComponentType();
            dimensions++;
        }
        boolean own = type.getName().startsWith("LostSheets");
        if (!type.isPrimitive() && !own && !LIBRARY.contains(type.getName())
                || dimensions > (type.isPrimitive() ? 2 : 1)) {
            fault("rule 3: " + f);
        }
    }

    private static void fields(Class<?> c) {
        int kept = 0;
        for (Field f : c.getDeclaredFields()) {
            if (f.isSynthetic()) {
                continue;
            }
            typeOf(f);
            if (!Modifier.isStatic(f.getModifiers())) {
                kept++;
            } else if (!f.isEnumConstant() && (!Modifier.isFinal(f.getModifiers())
                    || !CONSTANTS.contains(f.getType())) && !c.isEnum()) {
                fault("rule 5: " + f);
            }
        }
        if (kept > MOST_FIELDS) {
            fault("rule 11: " + c + " has " + kept + " fields");
        }
    }

    private static void functions(Class<?> c) {
        for (Method m : c.getDeclaredMethods()) {
            if (m.getParameterCount() > MOST_PARAMETERS) {
                fault("rule 11: " + m);
            }
            for (String open : FACE) {
                if (Modifier.isPrivate(m.getModifiers()) && open.contains(" " + m.getName() + "(")) {
                    fault("rule 1: " + m);
                }
            }
            if (Modifier.isNative(m.getModifiers()) || Modifier.isSynchronized(m.getModifiers())) {
                fault("rule 6: " + m);
            }
        }
    }

    private static void classes() {
        Class<?>[] inside = LostSheets.class.getDeclaredClasses();
        if (inside.length + 1 > MOST_CLASSES) {
            fault("rule 11: " + (inside.length + 1) + " classes");
        }
        fields(LostSheets.class);
        functions(LostSheets.class);
        for (Class<?> c : inside) {
            int m = c.getModifiers();
            if (!Modifier.isStatic(m) || Modifier.isPublic(m) || Modifier.isProtected(m)
                    || c.getDeclaredClasses().length != 0) {
                fault("rule 1 or 2: " + c);
            }
            fields(c);
            functions(c);
        }
    }

    // ---- its text

    private static String withoutTexts(String source) {
        return source.replaceAll("(?s)/\\*.*?\\*/", " ").replaceAll("//[^\n]*", " ")
            .replaceAll("\"(\\\\.|[^\"\\\\])*\"", "\"\"").replaceAll("'(\\\\.|[^'\\\\])'", "' '");
    }

    private static void forbidden(String code, String rule, String regex) {
        Matcher m = Pattern.compile(regex).matcher(code);
        while (m.find()) {
            fault("rule " + rule + ": " + m.group());
        }
    }

    private static void words(String code) {
        forbidden(code, "6", "\\b(throw|throws|try|catch|finally|synchronized|assert)\\b");
        forbidden(code, "4", "\\bimport (?!java\\.util\\.(ArrayList|List|Arrays|Iterator);).*");
        forbidden(code, "1", "\\b(package|protected|native|transient|volatile)\\b");
        forbidden(code, "2", "::|\\) *->|[=(,] *\\w+ *->");
        forbidden(code, "3", "\\b(Object|var|Long|Byte|Short|Character|Boolean|Double|Float|Map|Set|HashMap|Thread)\\b(?!\\.)");
        forbidden(code, "4", "Exact\\b|\\bSystem\\.(?!arraycopy\\b)|\\bArrays\\.(?!(copyOf|copyOfRange|fill)\\b)|\\bString\\.");
        forbidden(code, "6", "\\b(hashCode|toString)\\(\\)(?=.*\\{)");
        forbidden(code, "10", "\"\" *\\+|\\+ *\"\"");
        forbidden(code, "9", "for \\( *;;|while \\(true\\)");
    }

    private static Map<String, Set<String>> calls(String code, List<String> publicNames) {
        Map<String, Set<String>> calls = new HashMap<>();
        String[] lines = code.split("\n");
        for (int i = 0; i < lines.length; i++) {
            Matcher m = METHOD.matcher(lines[i]);
            if (!m.matches()) {
                continue;
            }
            String name = m.group(4);
            if (m.group(2).contains("public")) {
                publicNames.add(name);
            }
            int end = i;
            StringBuilder body = new StringBuilder();
            while (end + 1 < lines.length && !lines[end].equals(m.group(1) + "}")) {
                end++;
                body.append(lines[end]).append('\n');
            }
            if (end - i + 1 > MOST_LINES) {
                fault("rule 11: " + name + " has " + (end - i + 1) + " lines");
            }
            Set<String> called = calls.computeIfAbsent(name, k -> new HashSet<>());
            Matcher c = Pattern.compile("\\b([a-z][A-Za-z]*)\\(").matcher(body);
            while (c.find()) {
                called.add(c.group(1));
            }
        }
        return calls;
    }

    /** Functions of the same name count as one here, so this is at least as deep as what is. */
    private static int depth(String name, Map<String, Set<String>> calls, int above) {
        if (above > 40) {
            return above;
        }
        int deepest = 0;
        for (String called : calls.getOrDefault(name, Set.of())) {
            if (calls.containsKey(called) && !called.equals(name)
                    && !(RECURSIVE.contains(name) && RECURSIVE.contains(called))) {
                deepest = Math.max(deepest, depth(called, calls, above + 1));
            }
        }
        return deepest + 1;
    }

    public static void main(String[] args) throws IOException {
        face();
        classes();
        String source = Files.readString(Path.of(args[0]), StandardCharsets.ISO_8859_1);
        for (int i = 0; i < source.length(); i++) {
            if (source.charAt(i) > 126) {
                fault("rule 4: a sign above 126 at " + i);
            }
        }
        String code = withoutTexts(source);
        words(code);
        List<String> publicNames = new ArrayList<>();
        Map<String, Set<String>> calls = calls(code, publicNames);
        for (String name : publicNames) {
            int depth = depth(name, calls, 0);
            if (depth > DEEPEST) {
                fault("rule 11: " + name + " goes " + depth + " deep");
            }
        }
        System.out.println(wrong == 0 ? "nothing forbidden was seen" : wrong + " things are forbidden");
        if (wrong != 0) {
            System.exit(1);
        }
    }
}
