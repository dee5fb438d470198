import java.io.IOException;
import java.lang.reflect.Method;
import java.nio.file.Files;
import java.nio.file.Path;
import java.util.regex.Matcher;
import java.util.regex.Pattern;

/** Writes a test of the lines of code in README.md: each call that tells an answer behind it must give that one. */
public final class ReadmeCode {
    private static final Pattern BLOCK = Pattern.compile("(?s)```java\n(.*?)```");
    private static final Pattern TOLD = Pattern.compile("(\\w+\\.\\w+\\(.*\\)); +// (NONE|true|false|-?\\d+)\\b.*");

    private ReadmeCode() {
    }

    public static void main(String[] args) throws IOException {
        String page = Files.readString(Path.of("README.md"));
        StringBuilder code = new StringBuilder();
        StringBuilder calls = new StringBuilder();
        Matcher block = BLOCK.matcher(page);
        while (block.find()) {
            for (String line : block.group(1).split("\n")) {
                Matcher told = TOLD.matcher(line);
                boolean tells = told.matches();
                code.append(tells ? check(told.group(1), told.group(2)) : line).append('\n');
                calls.append(tells ? told.group(1) : "").append('\n');
            }
        }
        showsEveryCall(calls.toString());
        System.out.println("public final class ReadmeTest {");
        System.out.println("public static void main(String[] args) {");
        System.out.print(code);
        System.out.println("Check.end();\n}\n}");
    }

    private static String check(String call, String answer) {
        String want = answer.equals("NONE") ? "GreatSort.NONE" : answer;
        return "Check.due(\"README.md: " + call + "\", " + call + ", " + want + ");";
    }

    private static void showsEveryCall(String calls) {
        for (Method m : GreatSort.class.getMethods()) {
            boolean own = m.getDeclaringClass() == GreatSort.class;
            if (own && !calls.contains("." + m.getName() + "(")) {
                System.err.println("README.md shows no answer of " + m.getName());
                System.exit(1);
            }
        }
    }
}
