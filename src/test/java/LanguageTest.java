import java.lang.management.ManagementFactory;
import java.lang.reflect.Field;
import java.lang.reflect.Method;
import java.lang.reflect.Modifier;
import java.nio.file.Files;
import java.nio.file.Path;
import java.util.ArrayList;
import java.util.Arrays;
import java.util.List;
import java.util.Set;
import java.util.TreeSet;

/** The rules of LANGUAGE.md that a program can look at, and the room that calls take. */
public final class LanguageTest {
    private static final String FACE = "after at back child come costs count deep fairly feed forget game go hold look makes "
            + "many matters orphans paidIn paint parents place read repaint restore ring row rows shut side tell then times "
            + "undo ways worth year";
    private static final List<String> FORBIDDEN = List.of("throw", "throws", "try", "catch", "synchronized", "assert",
            "import", "package", "protected", "native", "volatile", "transient", "random", "Random", "MAX_VALUE",
            "MIN_VALUE", "equals", "hashCode", "toString", "valueOf(", "String.format", "null", "Object", "->", "::", "@");

    private final Check check = new Check();

    public static void main(String[] args) throws Exception {
        LanguageTest test = new LanguageTest();
        test.face();
        test.classes();
        test.words();
        test.methodLengths();
        test.room();
        test.check.end();
    }

    private void face() {
        check.part("rule 1");
        Set<String> names = new TreeSet<>();
        for (Method method : RowChildren.class.getDeclaredMethods()) {
            if (Modifier.isPublic(method.getModifiers())) {
                names.add(method.getName());
            } else {
                check.due("private " + method.getName(), true, Modifier.isPrivate(method.getModifiers()));
            }
        }
        check.due("the face is " + names, true, String.join(" ", names).equals(FACE));
        for (Field field : RowChildren.class.getDeclaredFields()) {
            boolean own = field.getName().equals("NONE") || Modifier.isPrivate(field.getModifiers());
            check.due("field " + field.getName(), true, own);
        }
        check.due("final", true, Modifier.isFinal(RowChildren.class.getModifiers()));
    }

    private static List<Class<?>> allClasses() {
        List<Class<?>> all = new ArrayList<>(List.of(RowChildren.class));
        all.addAll(Arrays.asList(RowChildren.class.getDeclaredClasses()));
        return all;
    }

    private void classes() {
        check.part("rules 1, 2, 5, 11");
        List<String> face = List.of(FACE.split(" "));
        check.due("some twelve classes", true, allClasses().size() <= 12);
        for (Class<?> one : allClasses()) {
            int fields = 0;
            for (Field field : one.getDeclaredFields()) {
                boolean isStatic = Modifier.isStatic(field.getModifiers());
                fields += isStatic ? 0 : 1;
                boolean plain = field.getType().isPrimitive() || field.getType() == String.class;
                check.due("static " + field, true, !isStatic || Modifier.isFinal(field.getModifiers()) && plain);
            }
            check.due("fields of " + one, true, fields <= 20);
            for (Method method : one.getDeclaredMethods()) {
                check.due("parameters of " + method, true, method.getParameterCount() <= 7);
                boolean own = one == RowChildren.class && Modifier.isPublic(method.getModifiers());
                check.due("name of " + method, true, own || !face.contains(method.getName()));
            }
            if (one != RowChildren.class) {
                check.due("static " + one, true, Modifier.isStatic(one.getModifiers()));
            }
        }
    }

    /** The source without comments and without what stands in quotes. */
    private static String source() throws Exception {
        String all = Files.readString(Path.of("src/main/java/RowChildren.java"));
        return all.replaceAll("(?s)/\\*.*?\\*/", "").replaceAll("//[^\n]*", "").replaceAll("\"[^\"\n]*\"", "\"\"");
    }

    private void words() throws Exception {
        check.part("rules 3, 4, 6");
        String source = source();
        for (String word : FORBIDDEN) {
            boolean isWord = Character.isLetter(word.charAt(0)) && Character.isLetter(word.charAt(word.length() - 1));
            String pattern = isWord ? "\\b" + word + "\\b" : java.util.regex.Pattern.quote(word);
            boolean found = java.util.regex.Pattern.compile(pattern).matcher(source).find();
            check.due("no " + word, false, found);
        }
        check.due("only plain signs", true, source.chars().allMatch(sign -> sign < 127));
    }

    private void methodLengths() throws Exception {
        check.part("rule 11");
        List<String> lines = List.of(source().split("\n"));
        for (int from = 0; from < lines.size(); from++) {
            String line = lines.get(from);
            if (line.matches("( {4}| {8})\\w.*\\) \\{")) {
                String end = line.startsWith("        ") ? "        }" : "    }";
                int length = lines.subList(from, lines.size()).indexOf(end) + 1;
                check.due("lines of" + line, true, length > 0 && length <= 60);
            }
        }
    }

    /** All that a call needs is made with the object. */
    private void room() {
        check.part("room");
        com.sun.management.ThreadMXBean bean = (com.sun.management.ThreadMXBean) ManagementFactory.getThreadMXBean();
        RowChildren x = Check.of("colours 4; row a 0 1 2 3 3 2 1 0; odds = 50; worth = (seat + 1) * depth;");
        long least = Long.MAX_VALUE;
        for (int i = 0; i < 5; i++) {
            long before = bean.getCurrentThreadAllocatedBytes();
            callAll(x);
            least = Math.min(least, bean.getCurrentThreadAllocatedBytes() - before);
        }
        check.due("bytes made by calls", 0, least);
    }

    private static void callAll(RowChildren x) {
        x.feed(0x726f7720, 0x78203120, 0x303b726f, 0x77207920, 0x3120313b);
        x.read();
        x.row(0, 6);
        x.paint(0, 0, 0);
        x.come(0, 0);
        x.times(1);
        x.undo();
        x.makes(1, 8, 0);
        x.game(1, 8, 1);
        x.repaint(0, 1, 0);
        x.fairly(0, 1);
        x.matters(0);
        x.parents(0, 1);
        x.orphans(8);
        x.ring(0, 1);
        x.after(0, 1000, 0);
        x.year(0, 0, 20, 20);
        x.tell(0, 0, 0, true);
        x.look(1, 6);
        x.hold(0);
        x.restore(0);
        x.count(6);
    }
}
