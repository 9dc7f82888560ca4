import java.lang.reflect.Method;
import java.lang.reflect.Modifier;
import java.nio.file.Files;
import java.nio.file.Path;
import java.util.List;
import java.util.regex.Matcher;
import java.util.regex.Pattern;

/** README.md tells of every call, and the calls that it shows answer what it says of them. */
public final class ReadmeTest extends Checks {
    private static final Pattern SHOWN = Pattern.compile("cam\\.(\\w+)\\(([-\\d, ]*)\\); +// (.*)");
    private static final Pattern ANSWER = Pattern.compile("(-?\\d+|true|false)\\b.*");

    public static void main(String[] args) throws Exception {
        List<String> lines = Files.readAllLines(Path.of("README.md"));
        callsShown(lines);
        callsTold(String.join("\n", lines));
        end();
    }

    private static void callsShown(List<String> lines) throws Exception {
        about("README.md, the calls shown");
        CamMaker cam = new CamMaker();
        int answers = 0;
        for (String line : lines) {
            Matcher shown = SHOWN.matcher(line);
            if (shown.matches()) {
                String got = String.valueOf(call(cam, shown.group(1), shown.group(2)));
                Matcher answer = ANSWER.matcher(shown.group(3));
                if (answer.matches()) {
                    answers++;
                    due(shown.group(1) + "(" + shown.group(2) + ")", answer.group(1), got);
                }
            }
        }
        due("some answers are shown", true, answers > 5);
    }

    private static Object call(CamMaker cam, String name, String told) throws Exception {
        Object[] values = told.isEmpty() ? new Object[0]
                : Pattern.compile(", ").splitAsStream(told).map(Integer::valueOf).toArray();
        for (Method method : CamMaker.class.getMethods()) {
            if (method.getName().equals(name) && method.getParameterCount() == values.length) {
                return method.invoke(cam, values);
            }
        }
        return "no such call";
    }

    private static void callsTold(String text) {
        about("README.md, the calls told");
        for (Method method : CamMaker.class.getDeclaredMethods()) {
            if (Modifier.isPublic(method.getModifiers())) {
                due(method.getName(), true, text.contains("`" + method.getName() + "("));
            }
        }
    }
}
