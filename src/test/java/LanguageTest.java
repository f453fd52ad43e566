import java.nio.file.Files;
import java.nio.file.Path;
import java.util.ArrayList;
import java.util.List;
import java.util.Map;
import java.util.TreeMap;
import java.util.regex.Matcher;
import java.util.regex.Pattern;

/** What of LANGUAGE.md can be seen in the source itself. */
public final class LanguageTest {
    private static final Checks CHECKS = new Checks();
    private static final String[] FORBIDDEN = {"throw", "throws", "try", "catch", "finally", "synchronized", "assert",
        "lambda", "record", "Object", "System.out", "Random", "Thread", "Exception", "var", "volatile", "transient",
        "native", "hashCode", "toString", "package", "protected"};
    private static final String LIBRARY = "length|charAt|isEmpty|equals|indexOf|substring|toCharArray|append|setCharAt"
        + "|setLength|deleteCharAt|reverse|add|get|remove|size|clear|bitCount|max|min|abs|floorDiv|floorMod|arraycopy"
        + "|copyOf|copyOfRange|fill|clone";

    public static void main(String[] args) throws Exception {
        String source = Files.readString(Path.of("src/main/java/CoachAhead.java"));
        String code = source.replaceAll("(?s)/\\*.*?\\*/", "").replaceAll("//[^\n]*", "")
            .replaceAll("\"[^\"\n]*\"", "\"\"");
        for (String word : FORBIDDEN) {
            CHECKS.holds("no " + word, !Pattern.compile("(?<![\\w.])" + Pattern.quote(word) + "(?!\\w)").matcher(code).find());
        }
        CHECKS.holds("no lambda, no method reference", !code.contains("->") && !code.contains("::"));
        CHECKS.holds("no sign beyond 127", source.chars().allMatch(c -> c == '\n' || c >= 32 && c < 127));
        imports(code);
        staticFields(code);
        parametersAndLengths(code);
        calls(code);
        classes(code);
        depth(code);
        CHECKS.close("LanguageTest");
    }

    private static void imports(String code) {
        Matcher m = Pattern.compile("(?m)^import (.*);").matcher(code);
        while (m.find()) {
            CHECKS.holds("import " + m.group(1), m.group(1).matches("java\\.util\\.(Arrays|ArrayList|List)"));
        }
    }

    private static void staticFields(String code) {
        Matcher m = Pattern.compile("(?m)^ *((?:public |private )?static [^(\n]*?)(=|;)").matcher(code);
        while (m.find()) {
            if (!m.group(1).contains(" class ")) {
                CHECKS.holds("static field " + m.group(1), m.group(1).contains(" final ")
                    || m.group(1).startsWith("static final "));
            }
        }
        CHECKS.holds("no static block", !Pattern.compile("static\\s*\\{").matcher(code).find());
    }

    private static void parametersAndLengths(String code) {
        Pattern head = Pattern.compile("^ +(?:\\w+ )*[\\w\\[\\]]+ ?\\w*\\(([^()]*)\\) \\{$");
        String[] lines = code.split("\n");
        for (int i = 0; i < lines.length; i++) {
            Matcher m = head.matcher(lines[i]);
            if (!m.matches() || lines[i].trim().matches("(if|for|while|switch|else).*")) {
                continue;
            }
            CHECKS.holds("at most seven parameters: " + lines[i], m.group(1).split(",").length <= 7);
            String close = lines[i].replaceAll("\\S.*", "") + "}";
            int end = i;
            while (end < lines.length - 1 && !lines[end].equals(close)) {
                end++;
            }
            CHECKS.holds("at most sixty lines: " + lines[i], end - i <= 60);
        }
    }

    /** Each call by a dot goes to a method of the file itself or to one that the language lists. */
    private static void calls(String code) {
        List<String> own = new ArrayList<>();
        Matcher m = Pattern.compile("(?m)^ +(?:\\w+ )*[\\w\\[\\]]+ (\\w+)\\([^()]*\\) \\{$").matcher(code);
        while (m.find()) {
            own.add(m.group(1));
        }
        m = Pattern.compile("\\.(\\w+)\\(").matcher(code);
        while (m.find()) {
            CHECKS.holds("call of " + m.group(1), own.contains(m.group(1)) || m.group(1).matches(LIBRARY));
        }
    }

    /** Calls go at most eight deep, one of the library counted as one, and none comes back to where it was. */
    private static void depth(String code) {
        Map<String, String> bodies = new TreeMap<>();
        Pattern head = Pattern.compile("^( +)(?:\\w+ )*[\\w\\[\\]]+ (\\w+)\\([^()]*\\) \\{$");
        String[] lines = code.split("\n");
        for (int i = 0; i < lines.length; i++) {
            Matcher m = head.matcher(lines[i]);
            if (m.matches() && !m.group(2).matches("if|for|while|switch")) {
                StringBuilder body = new StringBuilder();
                for (int k = i + 1; k < lines.length && !lines[k].equals(m.group(1) + "}"); k++) {
                    body.append(lines[k]).append("\n");
                }
                bodies.merge(m.group(2), body.toString(), String::concat);
            }
        }
        CHECKS.holds("methods were found: " + bodies.size(), bodies.size() > 100);
        for (String name : bodies.keySet()) {
            int deep = depthOf(name, bodies, 1);
            CHECKS.holds(name + " goes at most eight deep, not " + deep, deep <= 8);
        }
    }

    private static int depthOf(String name, Map<String, String> bodies, int level) {
        int deepest = level;
        Matcher m = Pattern.compile("\\b(\\w+)\\(").matcher(bodies.get(name));
        while (m.find() && level < 20) {
            String called = m.group(1);
            if (bodies.containsKey(called)) {
                deepest = Math.max(deepest, depthOf(called, bodies, level + 1));
            } else if (called.matches(LIBRARY)) {
                deepest = Math.max(deepest, level + 1);
            }
        }
        return deepest;
    }

    private static void classes(String code) {
        Matcher m = Pattern.compile("(?m)^ *([\\w ]*)\\bclass (\\w+)").matcher(code);
        int count = 0;
        while (m.find()) {
            count++;
            CHECKS.holds("class " + m.group(2),
                m.group(1).equals("private static final ") || m.group(2).equals("CoachAhead"));
        }
        CHECKS.holds("at most twelve classes: " + count, count <= 12);
    }
}
