import java.lang.reflect.Method;
import java.nio.file.Files;
import java.nio.file.Path;
import java.util.List;
import java.util.regex.Matcher;
import java.util.regex.Pattern;

/** The example of README.md: each call in it answers what stands behind it. */
public final class ReadmeTest {
    private static final Pattern CALL = Pattern.compile("x\\.(\\w+)\\((.*)\\); *// (-?\\d+|NONE|true|false)\\b.*");
    private static final Pattern TEXT = Pattern.compile("read\\(x, \"(.*)\"\\); *// (\\d+)\\b.*");
    private static final String START = "RowChildren x = new RowChildren();";

    private final Check check = new Check();
    private RowChildren x = new RowChildren();
    private int lines;

    public static void main(String[] args) throws Exception {
        ReadmeTest test = new ReadmeTest();
        test.example(Files.readAllLines(Path.of("README.md")));
        test.check.end();
    }

    private void example(List<String> readme) throws Exception {
        check.part("README.md");
        int from = readme.indexOf(START);
        check.due("the example is there", true, from >= 0);
        for (int i = from + 1; from >= 0 && !readme.get(i).equals("```"); i++) {
            line(readme.get(i));
        }
        check.due("lines of the example are some", true, lines > 20);
    }

    private void line(String line) throws Exception {
        Matcher call = CALL.matcher(line);
        Matcher text = TEXT.matcher(line);
        lines++;
        if (text.matches()) {
            check.due(line, Integer.parseInt(text.group(2)), Check.read(x, text.group(1)));
        } else if (call.matches()) {
            check.due(line, number(call.group(3)), number(String.valueOf(answer(call.group(1), call.group(2)))));
        } else {
            check.due("understood: " + line, true, false);
        }
    }

    private Object answer(String name, String arguments) throws Exception {
        String[] told = arguments.isEmpty() ? new String[0] : arguments.split(", ");
        Object[] values = new Object[told.length];
        for (int i = 0; i < told.length; i++) {
            values[i] = told[i].matches("true|false") ? (Object) Boolean.valueOf(told[i]) : (Object) Integer.valueOf(told[i]);
        }
        for (Method method : RowChildren.class.getDeclaredMethods()) {
            if (method.getName().equals(name) && method.getParameterCount() == told.length) {
                return method.invoke(x, values);
            }
        }
        return "-99";
    }

    private static int number(String answer) {
        return switch (answer) {
            case "NONE" -> RowChildren.NONE;
            case "true" -> 1;
            case "false" -> 0;
            default -> Integer.parseInt(answer);
        };
    }
}
