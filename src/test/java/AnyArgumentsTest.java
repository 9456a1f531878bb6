import java.lang.reflect.InvocationTargetException;
import java.lang.reflect.Method;
import java.lang.reflect.Modifier;
import java.util.ArrayList;
import java.util.Arrays;
import java.util.Comparator;
import java.util.List;
import java.util.Random;

/** No call throws, whatever its arguments and whatever was called ahead of it (rule 7 of LANGUAGE.md). */
public final class AnyArgumentsTest {
    private static final int[] NUMBERS = {Integer.MIN_VALUE, Integer.MIN_VALUE + 1, -1000000000, -256, -8, -2, -1, 0, 1, 2, 3, 4,
        5, 6, 7, 8, 9, 15, 16, 19, 20, 21, 63, 64, 255, 256, 2000, 65536, 1000000000, 1000000001, Integer.MAX_VALUE - 1,
        Integer.MAX_VALUE};
    private static final String[] TEXTS = {"", "row a 0;", "colours 4; row a 3 3 3 3 3 3 3 3; row b 2 1; row c 0; row d 1 2 3;",
        "row a 1 1 1 1 1 1 1 1; worth = 9999 * 9999 / (seat - 1); costs = 1 / (colour - 1); odds = 60; pays = 0 - time;",
        "colours 3; row q 0 1 2 0 1 2 0 1; child 2 2 2; odds = 100; seed 9999;"};
    private static final int CALLS = 500;
    private static final int RUNS = 400;

    private final Check check = new Check();
    private final List<Method> methods = new ArrayList<>();
    private final Random random = new Random(39);

    public static void main(String[] args) throws Exception {
        AnyArgumentsTest test = new AnyArgumentsTest();
        for (Method method : RowChildren.class.getDeclaredMethods()) {
            if (Modifier.isPublic(method.getModifiers())) {
                test.methods.add(method);
            }
        }
        test.methods.sort(Comparator.comparing(Method::getName));
        test.check.due("methods", 39 - 1, test.methods.size());
        test.anyArguments();
        test.anyTexts();
        test.check.end();
    }

    private void anyArguments() throws Exception {
        check.part("rule 7: any arguments");
        for (int run = 0; run < RUNS; run++) {
            RowChildren x = Check.of(TEXTS[run % TEXTS.length]);
            for (int call = 0; call < CALLS; call++) {
                answer(x, methods.get(random.nextInt(methods.size())));
            }
        }
    }

    private void answer(RowChildren x, Method method) throws Exception {
        Object[] arguments = new Object[method.getParameterCount()];
        boolean likely = random.nextBoolean();
        for (int i = 0; i < arguments.length; i++) {
            int number = likely ? random.nextInt(9) : NUMBERS[random.nextInt(NUMBERS.length)];
            arguments[i] = method.getParameterTypes()[i] == boolean.class ? (Object) random.nextBoolean() : (Object) number;
        }
        try {
            Object answer = method.invoke(x, arguments);
            boolean low = answer instanceof Integer number && number < -2;
            check.due(method.getName() + Arrays.toString(arguments) + " is below -2", false, low);
        } catch (InvocationTargetException thrown) {
            check.due(method.getName() + Arrays.toString(arguments) + " threw " + thrown.getCause(), true, false);
        }
    }

    /** Bytes of all sorts, words of the document among them, up to a full tape. */
    private void anyTexts() {
        check.part("rule 7: any texts");
        String[] parts = {"colours", "child", "row", "worth", "costs", "odds", "pays", "seed", "if", "then", "else", "colour",
            "seat", "depth", "long", "many", "time", "which", "left", "right", ";", "=", "+", "-", "*", "/", "<", "(", ")", "0",
            "1", "2", "3", "4", "9999", "12345", "a", "b", "abcdefgh", "abcdefghi", "?", "\u0000", "\u00ff", "\n", "row a 0;",
            "worth = (1", "if 1 < 2 then", "child 0 0 0;"};
        for (int run = 0; run < 20000; run++) {
            RowChildren x = new RowChildren();
            StringBuilder text = new StringBuilder();
            int most = random.nextInt(run % 10 == 0 ? 2000 : 60);
            while (text.length() < most) {
                text.append(parts[random.nextInt(parts.length)]).append(random.nextBoolean() ? " " : "");
            }
            text.setLength(most);
            int number = Check.read(x, text.toString());
            boolean known = number == 0 || number == 1 || number == 2 || number == 3 || number == 5 || number == 6;
            check.due("fault " + number + " of '" + text + "' is known", true, known);
            boolean inside = number == 0 ? x.place() == -1 : x.place() >= 0 && x.place() <= most;
            check.due("place " + x.place() + " of '" + text + "' is in it", true, inside);
        }
    }
}
