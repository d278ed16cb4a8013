import java.io.IOException;
import java.nio.charset.StandardCharsets;
import java.nio.file.Files;
import java.nio.file.Path;
import java.util.List;
import java.util.regex.Matcher;
import java.util.regex.Pattern;

/** The rules of LANGUAGE.md that can be read off the source text; -Dsource names the file. */
public final class RulesTest {
    private static final int LONGEST_METHOD = 60;
    private static final int MOST_CLASSES = 12;
    private static final int MOST_PARAMETERS = 7;
    private static final List<String> FORBIDDEN = List.of(
        "->", "::", "\\btry\\b", "\\bcatch\\b", "\\bfinally\\b", "\\bsynchronized\\b", "\\bassert\\b", "\\bpackage\\b",
        "Exact\\b", "\\bhashCode\\b", "\\btoString\\b", "\\bequals\\b", "\\bgetMessage\\b", "\\bextends\\b", "\\bnative\\b",
        "\\bdouble\\b", "\\bfloat\\b", "\\bObject\\b", "\\bvar\\b", "static\\s*\\{", "nanoTime", "currentTimeMillis", "\\bRandom\\b", "\\bThread\\b");
    private static final Due due = new Due();

    public static void main(String[] args) throws IOException {
        Path file = Path.of(System.getProperty("source", "src/main/java/WaveWalk.java"));
        String text = new String(Files.readAllBytes(file), StandardCharsets.ISO_8859_1);
        for (int i = 0; i < text.length(); i++) {
            due.isTrue("sign " + i + " is within 1 to 127", text.charAt(i) >= 1 && text.charAt(i) <= 127);
        }
        String code = withoutComments(text);
        for (String each : FORBIDDEN) {
            due.isFalse("the code has " + each, Pattern.compile(each).matcher(code).find());
        }
        imports(code);
        throwsByRule(code);
        staticFields(code);
        due.isTrue("classes", occurrences("\\bclass\\b", code) <= MOST_CLASSES);
        methodLengths(code);
        due.end();
    }

    private static String withoutComments(String text) {
        return text.replaceAll("(?s)/\\*.*?\\*/", "").replaceAll("//[^\n]*", "");
    }

    private static int occurrences(String what, String code) {
        Matcher m = Pattern.compile(what).matcher(code);
        int n = 0;
        while (m.find()) {
            n++;
        }
        return n;
    }

    private static void imports(String code) {
        due.is("imports", occurrences("(?m)^import ", code), occurrences("import java.util.NoSuchElementException;", code));
    }

    private static void throwsByRule(String code) {
        int byRule = occurrences("\\bthrow new (NoSuchElementException|IllegalArgumentException)\\((\"[^\"]*\")?\\);", code);
        due.is("throw statements by rule 6", occurrences("\\bthrow\\b", code), byRule);
        due.isTrue("there are some", byRule > 0);
    }

    private static void staticFields(String code) {
        Matcher m = Pattern.compile("(?m)^.*\\bstatic\\b[^(\n]*;").matcher(code);
        while (m.find()) {
            due.isTrue("constant: " + m.group().trim(), m.group().matches(".*static final (int|long|boolean) [A-Z_]+ = .*"));
        }
    }

    private static void methodLengths(String code) {
        Matcher m = Pattern.compile("(?m)^( {4}| {8})(?! )[^;={}]*\\(([^()]*)\\)[^;={}]*\\{$").matcher(code);
        int methods = 0;
        while (m.find()) {
            methods++;
            int end = code.indexOf("\n" + m.group(1) + "}", m.start());
            String body = code.substring(m.start(), end < 0 ? code.length() : end);
            due.isTrue("short: " + m.group().trim(), body.split("\n").length <= LONGEST_METHOD);
            due.isTrue("few parameters: " + m.group().trim(), m.group(2).split(",").length <= MOST_PARAMETERS);
        }
        due.isTrue("methods were found", methods > 30);
    }
}
