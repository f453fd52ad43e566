import java.lang.reflect.Method;
import java.lang.reflect.Modifier;
import java.nio.file.Files;
import java.nio.file.Path;
import java.util.List;
import java.util.Map;
import java.util.TreeMap;
import java.util.regex.Matcher;
import java.util.regex.Pattern;

/** README.md tells how the class is used: what it says is answered must be answered. */
public final class ReadmeTest {
    private static final Checks CHECKS = new Checks();
    private static final Map<String, Method> CALLS = new TreeMap<>();

    public static void main(String[] args) throws Exception {
        for (Method method : CoachAhead.class.getDeclaredMethods()) {
            if (Modifier.isPublic(method.getModifiers())) {
                CALLS.put(method.getName(), method);
            }
        }
        String readme = Files.readString(Path.of("README.md"));
        answers(Checks.of(block(readme, "text")), block(readme, "answers"));
        table(readme);
        CHECKS.close("ReadmeTest");
    }

    private static String block(String readme, String kind) {
        int from = readme.indexOf("```" + kind + "\n") + kind.length() + 4;
        return readme.substring(from, readme.indexOf("```", from));
    }

    private static void answers(CoachAhead x, String lines) throws Exception {
        Pattern form = Pattern.compile("(\\w+)\\(([^)]*)\\) = (-?\\d+)  .*");
        int told = 0;
        for (String line : lines.split("\n")) {
            Matcher m = form.matcher(line);
            CHECKS.holds("a call and its answer: " + line, m.matches() && CALLS.containsKey(m.group(1)));
            if (m.matches() && CALLS.containsKey(m.group(1))) {
                Object[] values = m.group(2).isEmpty() ? new Object[0]
                    : List.of(m.group(2).split(", ")).stream().map(Integer::valueOf).toArray();
                CHECKS.due(line, (Integer) CALLS.get(m.group(1)).invoke(x, values), Integer.parseInt(m.group(3)));
                told++;
            }
        }
        CHECKS.holds("answers are told", told > 10);
    }

    private static void table(String readme) {
        StringBuilder rows = new StringBuilder();
        for (String line : readme.split("\n")) {
            rows.append(line.startsWith("|") ? line : "");
        }
        for (String name : CALLS.keySet()) {
            CHECKS.due("the table names " + name, rows.toString().split("`" + name + "`", -1).length - 1, 1);
        }
    }
}
