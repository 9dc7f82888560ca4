import java.nio.charset.StandardCharsets;
import java.nio.file.Files;
import java.nio.file.Path;
import java.util.List;
import java.util.regex.Matcher;
import java.util.regex.Pattern;

/** The class keeps to those rules of LANGUAGE.md that its text shows. */
public final class LanguageTest {
    private static final Path SOURCE = Path.of("src/main/java/CamMaker.java");
    private static final String[] BARRED = {"->", "::", "@", "\\bcatch\\b", "\\btry\\b",
        "\\bfinally\\b", "\\bpackage\\b",
        "\\bsynchronized\\b", "\\bassert\\b", "\\bvar\\b", "\\byield\\b", "\\bdouble\\b", "\\bfloat\\b", "Exact\\b",
        "\\bstatic \\{", "\\btoString\\b", "\\bequals\\b", "\\bhashCode\\b"};
    private static final String ALLOWED =
            "Math\\.(abs|floorDiv|max|min)|System\\.arraycopy|CamMaker\\.\\w+|Plan\\.\\w+";

    private static int wrong = 0;

    private static void must(boolean holds, String what) {
        if (!holds) {
            wrong++;
            System.out.println("language: " + what);
        }
    }

    public static void main(String[] args) throws Exception {
        byte[] bytes = Files.readAllBytes(SOURCE);
        for (byte b : bytes) {
            must(b == '\n' || b >= 32 && b < 127, "a sign of the number " + b);
        }
        String text = new String(bytes, StandardCharsets.US_ASCII);
        String code = text.replaceAll("(?s)/\\*.*?\\*/", "").replaceAll("//[^\n]*", "");
        for (String barred : BARRED) {
            must(!Pattern.compile(barred).matcher(code).find(), "the text holds " + barred);
        }
        library(code);
        lengths(code.lines().toList());
        System.out.println(wrong == 0 ? "the text keeps to the rules" : wrong + " things break the rules");
        if (wrong != 0) {
            System.exit(1);
        }
    }

    private static void library(String code) {
        Matcher imports = Pattern.compile("import ([^;]+);").matcher(code);
        while (imports.find()) {
            must(imports.group(1).equals("java.util.NoSuchElementException"), "import of " + imports.group(1));
        }
        Matcher calls = Pattern.compile("\\b[A-Z]\\w*[a-z]\\w*\\.\\w+").matcher(code);
        while (calls.find()) {
            must(calls.group().matches(ALLOWED), "use of " + calls.group());
        }
        Matcher thrown = Pattern.compile("\\bthrow ([^;]+);").matcher(code);
        while (thrown.find()) {
            must(thrown.group(1).equals("new NoSuchElementException()"), "throw of " + thrown.group(1));
        }
    }

    /** No method has more than sixty lines, or more than seven parameters. */
    private static void lengths(List<String> lines) {
        Pattern head = Pattern.compile("^( +)(?:[\\w\\[\\]]+ )+(\\w+)\\(([^()]*)\\)(?: throws \\w+)? \\{$");
        int seen = 0;
        for (int i = 0; i < lines.size(); i++) {
            Matcher m = head.matcher(lines.get(i));
            if (!m.matches()) {
                continue;
            }
            seen++;
            int end = i;
            while (!lines.get(end).equals(m.group(1) + "}")) {
                end++;
            }
            must(end - i < 60, m.group(2) + " has " + (end - i) + " lines");
            must(m.group(3).split(",").length <= 7, m.group(2) + " has too many parameters");
        }
        must(seen > 60, "only " + seen + " methods were seen");
    }
}
