import java.io.IOException;
import java.nio.charset.StandardCharsets;
import java.nio.file.Files;
import java.nio.file.Path;
import java.util.HashMap;
import java.util.HashSet;
import java.util.List;
import java.util.Map;
import java.util.Set;
import java.util.regex.Matcher;
import java.util.regex.Pattern;

/** The rules of LANGUAGE.md that can be read off the source text; -Dsource names the file. */
public final class RulesTest {
    private static final int LONGEST_METHOD = 60;
    private static final int MOST_CLASSES = 12;
    private static final int MOST_PARAMETERS = 7;
    private static final int MOST_FIELDS = 20;
    private static final int DEEPEST_CALLS = 8;
    private static final Pattern HEAD = Pattern.compile("(?m)^( {4}| {8})(?! )[^;={}]*?(\\w+)\\(([^()]*)\\)[^;={}]*\\{$");
    /** What the class uses of what rule 4 lists; a new name here is looked up there first. */
    private static final Set<String> LIBRARY = Set.of("Math.min", "System.arraycopy");
    private static final List<String> FORBIDDEN = List.of(
        "->", "::", "\\btry\\b", "\\bcatch\\b", "\\bfinally\\b", "\\bsynchronized\\b", "\\bassert\\b", "\\bpackage\\b",
        "Exact\\b", "\\bhashCode\\b", "\\btoString\\b", "\\bequals\\b", "\\bgetMessage\\b", "\\bextends\\b", "\\bnative\\b",
        "\\bdouble\\b", "\\bfloat\\b", "\\bObject\\b", "\\bvar\\b", "static\\s*\\{", "nanoTime", "currentTimeMillis", "\\bRandom\\b", "\\bThread\\b");
    private static final Due due = new Due();

    public static void main(String[] args) throws IOException {
        Path file = Path.of(System.getProperty("source", "src/main/java/WaveWalk.java"));
        String text = new String(Files.readAllBytes(file), StandardCharsets.ISO_8859_1);
        for (int i = 0; i < text.length(); i++) {
            due.isTrue("sign " + i + " is within 1 to 127", text.charAt(i) >= 1 && text.charAt(i) <= 127);
        }
        String code = withoutComments(text);
        for (String each : FORBIDDEN) {
            due.isFalse("the code has " + each, Pattern.compile(each).matcher(code).find());
        }
        imports(code);
        throwsByRule(code);
        staticFields(code);
        due.isTrue("classes", occurrences("\\bclass\\b", code) <= MOST_CLASSES);
        methodLengths(code);
        callDepth(code);
        library(code);
        fieldCounts();
        due.end();
    }

    private static String withoutComments(String text) {
        return text.replaceAll("(?s)/\\*.*?\\*/", "").replaceAll("//[^\n]*", "");
    }

    private static int occurrences(String what, String code) {
        Matcher m = Pattern.compile(what).matcher(code);
        int n = 0;
        while (m.find()) {
            n++;
        }
        return n;
    }

    private static void imports(String code) {
        due.is("imports", occurrences("(?m)^import ", code), occurrences("import java.util.NoSuchElementException;", code));
    }

    private static void throwsByRule(String code) {
        int byRule = occurrences("\\bthrow new (NoSuchElementException|IllegalArgumentException)\\((\"[^\"]*\")?\\);", code);
        due.is("throw statements by rule 6", occurrences("\\bthrow\\b", code), byRule);
        due.isTrue("there are some", byRule > 0);
    }

    private static void staticFields(String code) {
        Matcher m = Pattern.compile("(?m)^.*\\bstatic\\b[^(\n]*;").matcher(code);
        while (m.find()) {
            due.isTrue("constant: " + m.group().trim(), m.group().matches(".*static final (int|long|boolean) [A-Z_]+ = .*"));
        }
    }

    private static void library(String code) {
        Matcher m = Pattern.compile("\\b([A-Z]\\w*\\.[a-z]\\w*)\\(").matcher(code);
        while (m.find()) {
            due.isTrue(m.group(1) + " is of the library that may be used", LIBRARY.contains(m.group(1)));
        }
        Set<String> own = new HashSet<>(Set.of("NoSuchElementException", "IllegalArgumentException", "int", "long", "boolean"));
        Matcher classes = Pattern.compile("\\bclass (\\w+)").matcher(code);
        while (classes.find()) {
            own.add(classes.group(1));
        }
        Matcher made = Pattern.compile("\\bnew (\\w+)").matcher(code);
        while (made.find()) {
            due.isTrue(made.group(1) + " may be made", own.contains(made.group(1)));
        }
    }

    private static void fieldCounts() {
        for (Class<?> inside : WaveWalk.class.getDeclaredClasses()) {
            due.isTrue(inside + " has few fields", inside.getDeclaredFields().length <= MOST_FIELDS);
        }
        due.isTrue("the class has few fields", WaveWalk.class.getDeclaredFields().length <= MOST_FIELDS);
    }

    private static String bodyOf(Matcher head, String code) {
        int end = code.indexOf("\n" + head.group(1) + "}", head.start());
        return code.substring(head.end(), end < 0 ? code.length() : end);
    }

    private static void methodLengths(String code) {
        Matcher m = HEAD.matcher(code);
        int methods = 0;
        while (m.find()) {
            methods++;
            due.isTrue("short: " + m.group().trim(), bodyOf(m, code).split("\n").length <= LONGEST_METHOD);
            due.isTrue("few parameters: " + m.group().trim(), m.group(3).split(",").length <= MOST_PARAMETERS);
        }
        due.isTrue("methods were found", methods > 30);
    }

    /** Methods of one name are taken as one: that can only make the calls deeper. */
    private static void callDepth(String code) {
        Map<String, Set<String>> calls = new HashMap<>();
        Matcher m = HEAD.matcher(code);
        while (m.find()) {
            Matcher call = Pattern.compile("\\b(\\w+)\\(").matcher(bodyOf(m, code));
            Set<String> called = calls.computeIfAbsent(m.group(2), any -> new HashSet<>());
            while (call.find()) {
                called.add(call.group(1));
            }
        }
        for (String each : calls.keySet()) {
            due.isTrue("no recursion, and few calls deep: " + each, depth(each, calls, 1) <= DEEPEST_CALLS);
        }
        due.isTrue("calls were found", depth("step", calls, 1) >= 3);
    }

    private static int depth(String name, Map<String, Set<String>> calls, int open) {
        int deepest = open;
        for (String each : calls.get(name)) {
            if (calls.containsKey(each) && open <= DEEPEST_CALLS) {
                deepest = Math.max(deepest, depth(each, calls, open + 1));
            }
        }
        return deepest;
    }
}
