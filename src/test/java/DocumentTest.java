import java.lang.reflect.Constructor;
import java.lang.reflect.Field;
import java.lang.reflect.Method;
import java.lang.reflect.Modifier;
import java.nio.file.Files;
import java.nio.file.Path;
import java.util.ArrayList;
import java.util.Arrays;
import java.util.List;
import java.util.Set;
import java.util.TreeSet;
import java.util.regex.Matcher;
import java.util.regex.Pattern;
import java.util.stream.Collectors;

/** The document itself: its face is the class's, and what the tests quote of it stands in it. */
public final class DocumentTest {
    private static final Pattern QUOTE = Pattern.compile("says\\(\\s*\"([^\"]*)\",\\s*((?:\"[^\"]*\"\\s*\\+?\\s*)+)\\)");
    private static final Pattern TEXT = Pattern.compile("\"([^\"]*)\"");

    private final Check check = new Check();
    private final String document;

    private DocumentTest(String document) {
        this.document = document;
    }

    public static void main(String[] args) throws Exception {
        DocumentTest test = new DocumentTest(Files.readString(Path.of("../shared/DOC.md")));
        test.face();
        test.headings();
        for (String name : List.of("TextEdgeTest", "RowEdgeTest", "SearchEdgeTest", "ToldEdgeTest")) {
            test.quotes(name);
        }
        test.check.end();
    }

    private static String types(Class<?>[] parameters) {
        return Arrays.stream(parameters).map(Class::getSimpleName).collect(Collectors.joining(", ", "(", ")"));
    }

    /** The public members as the document would write them, without the names of parameters. */
    private static Set<String> publicMembers() throws Exception {
        Set<String> members = new TreeSet<>();
        for (Method method : RowChildren.class.getDeclaredMethods()) {
            if (Modifier.isPublic(method.getModifiers())) {
                members.add(Modifier.toString(method.getModifiers()) + " " + method.getReturnType().getSimpleName() + " "
                        + method.getName() + types(method.getParameterTypes()));
            }
        }
        for (Constructor<?> constructor : RowChildren.class.getConstructors()) {
            members.add("public RowChildren" + types(constructor.getParameterTypes()));
        }
        for (Field field : RowChildren.class.getFields()) {
            members.add(Modifier.toString(field.getModifiers()) + " " + field.getType().getSimpleName() + " " + field.getName()
                    + " = " + field.getInt(null));
        }
        return members;
    }

    private void face() throws Exception {
        check.part("The public face");
        int from = document.indexOf("public final class RowChildren {");
        int to = document.indexOf("```", from);
        Set<String> told = new TreeSet<>();
        for (String line : document.substring(from, to).split("\n")) {
            if (line.startsWith("    public ")) {
                told.add(line.strip().replace(";", "").replaceAll("(int|boolean) \\w+(?=[,)])", "$1"));
            }
        }
        check.due("members told", 40, told.size());
        check.due("the document has " + told + ", the class " + publicMembers(), true, told.equals(publicMembers()));
    }

    /** A promise's heading and its signature name the same method. */
    private void headings() throws Exception {
        check.part("Promises");
        Matcher heading = Pattern.compile("## Promise (\\d+): (\\w+)\n\n`\\w+ (\\w+)\\(").matcher(document);
        Set<String> promised = new TreeSet<>();
        while (heading.find()) {
            check.due("promise " + heading.group(1) + " is of " + heading.group(3), true, heading.group(2).equals(heading.group(3)));
            promised.add(heading.group(3));
        }
        for (Method method : RowChildren.class.getDeclaredMethods()) {
            boolean isPublic = Modifier.isPublic(method.getModifiers());
            check.due(method.getName() + " is promised", true, !isPublic || promised.contains(method.getName()));
        }
    }

    private String part(String where) {
        Matcher number = Pattern.compile("promise (\\d+)").matcher(where);
        if (!number.matches()) {
            return flat(document);
        }
        int from = document.indexOf("## Promise " + number.group(1) + ":");
        int to = document.indexOf("\n## ", Math.max(0, from));
        return from < 0 || to < 0 ? "" : flat(document.substring(from, to));
    }

    private static String flat(String text) {
        return text.replaceAll("\\s+", " ");
    }

    private void quotes(String name) throws Exception {
        check.part(name);
        String source = Files.readString(Path.of("src/test/java/" + name + ".java"));
        Matcher quote = QUOTE.matcher(source);
        List<String> found = new ArrayList<>();
        while (quote.find()) {
            String words = TEXT.matcher(quote.group(2)).results().map(part -> part.group(1)).collect(Collectors.joining());
            found.add(words);
            check.due(quote.group(1) + " says '" + words + "'", true, part(quote.group(1)).contains(flat(words)));
        }
        int all = source.split("says\\(", -1).length - 1;
        check.due("quotes that were understood", all, found.size());
    }
}
