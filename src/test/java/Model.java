import java.util.ArrayDeque;
import java.util.ArrayList;
import java.util.Arrays;
import java.util.Deque;
import java.util.HashMap;
import java.util.HashSet;
import java.util.LinkedHashMap;
import java.util.List;
import java.util.Map;
import java.util.Set;
import java.util.function.Predicate;

/**
 * The document once more, written as slowly and as plainly as can be, to compare the class with:
 * every row is gone through, every triangle built anew, a text's syntax checked by a stack of symbols.
 */
final class Model {
    static final Set<String> WORDS = Set.of("colours", "child", "row", "worth", "costs", "odds", "pays", "seed", "if",
            "then", "else", "colour", "seat", "depth", "long", "many", "time", "which", "left", "right");
    static final List<String> VARIABLES = List.of("colour", "seat", "depth", "long", "many", "time", "which", "left",
            "right");

    record Token(String text, int place) {
        boolean isInt() {
            return !text.isEmpty() && Character.isDigit(text.charAt(0)) && text.length() <= 4;
        }

        boolean isName() {
            return text.matches("[a-z]{1,8}") && !WORDS.contains(text);
        }
    }

    record State(List<List<Integer>> rows, int time, int paid) {
        State copy() {
            List<List<Integer>> copied = new ArrayList<>();
            for (List<Integer> row : rows) {
                copied.add(new ArrayList<>(row));
            }
            return new State(copied, time, paid);
        }
    }

    record Known(int depth, int seat, int colour, boolean so) {
    }

    private final StringBuilder tape = new StringBuilder();
    private int place = -1;
    private int colours = 2;
    private Map<List<Integer>, Integer> told = new HashMap<>();
    private Map<String, List<String>> laws = new HashMap<>();
    private int seed;
    private State state = new State(new ArrayList<>(), 0, 0);
    private final Deque<State> undone = new ArrayDeque<>();
    private final State[] slots = new State[3];
    private final List<Known> known = new ArrayList<>();

    // ---- texts

    int feed(int a, int b, int c, int d, int e) {
        if (tape.length() + 20 > 2000) {
            return -1;
        }
        for (int word : new int[] {a, b, c, d, e}) {
            for (int i = 3; i >= 0; i--) {
                tape.append((char) (word >> 8 * i & 255));
            }
        }
        return tape.length();
    }

    int back(int n) {
        if (n < 0 || n > tape.length()) {
            return -1;
        }
        tape.setLength(tape.length() - n);
        return tape.length();
    }

    int place() {
        return place;
    }

    private static String sort(String text) {
        return text.matches("[a-z]+") ? "letters" : text.matches("[0-9]+") ? "digits" : "other";
    }

    /** All tokens; what is none is a token that nothing takes, "?". */
    static List<Token> tokens(String text) {
        List<Token> found = new ArrayList<>();
        int i = 0;
        while (i < text.length()) {
            if ("\t\n\r ".indexOf(text.charAt(i)) >= 0) {
                i++;
                continue;
            }
            int j = i + 1;
            String sort = sort(text.substring(i, j));
            while (!sort.equals("other") && j < text.length() && sort(text.substring(i, j + 1)).equals(sort)) {
                j++;
            }
            String token = text.substring(i, j);
            boolean good = sort.equals("letters") && token.length() <= 8 || sort.equals("digits") && token.length() <= 4
                    || sort.equals("other") && ";=+-*/<()".contains(token);
            found.add(new Token(good ? token : "?", i));
            i = j;
        }
        return found;
    }

    private static Map<Predicate<Token>, List<String>> rules(String symbol) {
        Map<Predicate<Token>, List<String>> rules = new LinkedHashMap<>();
        switch (symbol) {
            case "TELLS" -> {
                rules.put(t -> t.text.equals("colours") || t.text.equals("seed"), List.of("*", "INT", ";", "TELLS"));
                rules.put(t -> t.text.equals("child"), List.of("*", "INT", "INT", "INT", ";", "TELLS"));
                rules.put(t -> t.text.equals("row"), List.of("*", "NAME", "INT", "INTS", ";", "TELLS"));
                rules.put(t -> List.of("worth", "costs", "odds", "pays").contains(t.text),
                        List.of("*", "=", "LAW", ";", "TELLS"));
                rules.put(t -> t.text.isEmpty(), List.of());
            }
            case "INTS" -> {
                rules.put(Token::isInt, List.of("*", "INTS"));
                rules.put(t -> true, List.of());
            }
            case "LAW" -> {
                rules.put(t -> t.text.equals("if"), List.of("*", "E", "<", "E", "then", "E", "else", "LAW"));
                rules.put(t -> true, List.of("E"));
            }
            case "E" -> rules.put(t -> true, List.of("UNIT", "MORE"));
            case "MORE" -> {
                rules.put(t -> !t.text.isEmpty() && "+-*/".contains(t.text), List.of("*", "UNIT", "MORE"));
                rules.put(t -> true, List.of());
            }
            case "UNIT" -> {
                rules.put(t -> t.isInt() || VARIABLES.contains(t.text), List.of("*"));
                rules.put(t -> t.text.equals("("), List.of("*", "E", ")"));
            }
            case "*" -> rules.put(t -> true, null);
            case "INT" -> rules.put(Token::isInt, null);
            case "NAME" -> rules.put(Token::isName, null);
            default -> rules.put(t -> t.text.equals(symbol), null);
        }
        return rules;
    }

    /** The place of the first token with which no text goes on; -1: there is none. */
    private static int syntaxFault(List<Token> tokens, int length) {
        Deque<String> stack = new ArrayDeque<>(List.of("TELLS"));
        for (int i = 0; i <= tokens.size(); i++) {
            Token token = i < tokens.size() ? tokens.get(i) : new Token("", length);
            boolean taken = false;
            while (!taken && !stack.isEmpty()) {
                String symbol = stack.pop();
                boolean fits = false;
                for (Map.Entry<Predicate<Token>, List<String>> rule : rules(symbol).entrySet()) {
                    if (!fits && rule.getKey().test(token)) {
                        fits = true;
                        taken = rule.getValue() == null;
                        for (int j = taken ? -1 : rule.getValue().size() - 1; j >= 0; j--) {
                            stack.push(rule.getValue().get(j));
                        }
                    }
                }
                if (!fits) {
                    return token.place;
                }
            }
        }
        return -1;
    }

    /** The place of the first token for which there is no room; what stands behind a syntax fault counts for nothing. */
    private static int roomFault(List<Token> tokens) {
        int children = 0;
        int rows = 0;
        int ifs = 0;
        int open = 0;
        int rowColours = -1;
        for (int i = 0; i < tokens.size(); i++) {
            String text = tokens.get(i).text;
            boolean tooMany = i >= 400;
            if (text.equals(";")) {
                ifs = 0;
                open = 0;
                rowColours = -1;
            }
            if (text.equals("row")) {
                rowColours = 0;
                tooMany |= ++rows > 4;
            }
            if (text.equals("child")) {
                tooMany |= ++children > 20;
            }
            if (text.equals("if")) {
                tooMany |= ++ifs > 4;
            }
            if (text.equals("(")) {
                tooMany |= ++open > 6;
            }
            if (text.equals(")")) {
                open--;
            }
            if (rowColours >= 0 && tokens.get(i).isInt()) {
                tooMany |= ++rowColours > 8;
            }
            if (tooMany) {
                return tokens.get(i).place;
            }
        }
        return -1;
    }

    int read() {
        String text = tape.toString();
        tape.setLength(0);
        List<Token> tokens = tokens(text);
        int syntax = syntaxFault(tokens, text.length());
        int room = roomFault(tokens);
        if (syntax >= 0 && (room < 0 || syntax <= room)) {
            place = syntax;
            return 1;
        }
        place = room;
        return room >= 0 ? 2 : take(tokens, text.length());
    }

    private static List<List<Token>> tells(List<Token> tokens) {
        List<List<Token>> tells = new ArrayList<>();
        List<Token> tell = new ArrayList<>();
        for (Token token : tokens) {
            if (token.text.equals(";")) {
                tells.add(tell);
                tell = new ArrayList<>();
            } else {
                tell.add(token);
            }
        }
        return tells;
    }

    private int fault(int number, int at) {
        place = at;
        return number;
    }

    private int take(List<Token> tokens, int length) {
        List<List<Token>> tells = tells(tokens);
        Set<String> names = new HashSet<>();
        int newColours = 2;
        int newSeed = 0;
        int highest = 0;
        Map<List<Integer>, Integer> newTold = new HashMap<>();
        Map<String, List<String>> newLaws = new HashMap<>();
        List<List<Integer>> newRows = new ArrayList<>();
        for (List<Token> tell : tells) {
            String word = tell.get(0).text;
            List<Integer> numbers = new ArrayList<>();
            boolean isLaw = List.of("worth", "costs", "odds", "pays").contains(word);
            for (Token token : tell.subList(1, isLaw ? 1 : tell.size())) {
                if (token.isName() && !names.add(token.text)) {
                    return fault(3, token.place);
                }
                if (token.isInt()) {
                    int number = Integer.parseInt(token.text);
                    numbers.add(number);
                    int low = word.equals("colours") ? 2 : 0;
                    int high = word.equals("colours") ? 4 : word.equals("seed") ? 9999 : 3;
                    if (number < low || number > high) {
                        return fault(5, token.place);
                    }
                    if (word.equals("child") || word.equals("row")) {
                        highest = Math.max(highest, number);
                    }
                }
            }
            switch (word) {
                case "colours" -> newColours = numbers.get(0);
                case "seed" -> newSeed = numbers.get(0);
                case "child" -> newTold.put(numbers.subList(0, 2), numbers.get(2));
                case "row" -> newRows.add(numbers);
                default -> newLaws.put(word, tell.subList(2, tell.size()).stream().map(Token::text).toList());
            }
        }
        if (highest >= newColours) {
            return fault(6, length);
        }
        colours = newColours;
        seed = newSeed;
        told = newTold;
        laws = newLaws;
        state = new State(newRows, 0, 0);
        undone.clear();
        known.clear();
        Arrays.fill(slots, null);
        return fault(0, -1);
    }

    // ---- laws

    private static final class ByNought extends RuntimeException {
        private static final long serialVersionUID = 1;
    }

    private int law(String name, int standard, int most, int... values) {
        List<String> tokens = laws.get(name);
        int value = standard;
        if (tokens != null) {
            try {
                value = chosen(tokens, values);
            } catch (ByNought nought) {
                value = 0;
            }
        }
        return value < 0 ? 0 : value > most ? most : value;
    }

    private static int chosen(List<String> tokens, int[] values) {
        if (!tokens.get(0).equals("if")) {
            return sum(tokens, values);
        }
        int less = tokens.indexOf("<");
        int then = tokens.indexOf("then");
        int other = tokens.indexOf("else");
        boolean holds = sum(tokens.subList(1, less), values) < sum(tokens.subList(less + 1, then), values);
        return holds ? sum(tokens.subList(then + 1, other), values)
                : chosen(tokens.subList(other + 1, tokens.size()), values);
    }

    /** Split at the last operator of the loosest sort that is in no brackets. */
    private static int sum(List<String> tokens, int[] values) {
        for (String sort : List.of("+-", "*/")) {
            int open = 0;
            for (int i = tokens.size() - 1; i >= 0; i--) {
                String token = tokens.get(i);
                open += token.equals(")") ? 1 : token.equals("(") ? -1 : 0;
                if (open == 0 && sort.contains(token)) {
                    int one = sum(tokens.subList(0, i), values);
                    int other = sum(tokens.subList(i + 1, tokens.size()), values);
                    return joined(token, one, other);
                }
            }
        }
        if (tokens.get(0).equals("(")) {
            return sum(tokens.subList(1, tokens.size() - 1), values);
        }
        int variable = VARIABLES.indexOf(tokens.get(0));
        return variable >= 0 ? values[variable] : Integer.parseInt(tokens.get(0));
    }

    private static int joined(String operator, int one, int other) {
        long exact = switch (operator) {
            case "+" -> (long) one + other;
            case "-" -> (long) one - other;
            case "*" -> (long) one * other;
            default -> {
                if (other == 0) {
                    throw new ByNought();
                }
                yield (long) one / other;
            }
        };
        return (int) exact;
    }

    private static int amount(List<Integer> row, int colour) {
        return (int) row.stream().filter(c -> c == colour).count();
    }

    private int paysOf(State of, int r) {
        List<Integer> row = of.rows.get(r);
        return law("pays", row.size(), 99, row.get(0), 0, 0, row.size(), amount(row, row.get(0)), of.time, r, 0, 0);
    }

    private int costsOf(int r, int seat, int colour) {
        List<Integer> row = state.rows.get(r);
        return law("costs", 1, 99, colour, seat, 0, row.size(), amount(row, colour), state.time, r, 0, 0);
    }

    // ---- rows and triangles

    private int childOf(int left, int right) {
        return told.getOrDefault(List.of(left, right), (left + right) % colours);
    }

    private List<Integer> children(List<Integer> row) {
        List<Integer> beneath = new ArrayList<>();
        for (int i = 0; i + 1 < row.size(); i++) {
            beneath.add(childOf(row.get(i), row.get(i + 1)));
        }
        return beneath;
    }

    private List<List<Integer>> triangle(List<Integer> row) {
        List<List<Integer>> all = new ArrayList<>();
        for (List<Integer> next = row; !next.isEmpty(); next = children(next)) {
            all.add(next);
        }
        return all;
    }

    private int last(List<Integer> row) {
        List<Integer> next = row;
        while (next.size() > 1) {
            next = children(next);
        }
        return next.get(0);
    }

    private int number(List<Integer> row) {
        int number = 0;
        for (int colour : row) {
            number = number * colours + colour;
        }
        return number;
    }

    private int power(int n) {
        int all = 1;
        for (int i = 0; i < n; i++) {
            all *= colours;
        }
        return all;
    }

    private List<Integer> rowOf(int number, int n) {
        Integer[] row = new Integer[n];
        int rest = number;
        for (int i = n - 1; i >= 0; i--) {
            row[i] = rest % colours;
            rest /= colours;
        }
        return Arrays.asList(row);
    }

    private int often(List<Integer> row, int colour) {
        int sum = 0;
        for (List<Integer> line : triangle(row)) {
            sum += amount(line, colour);
        }
        return sum;
    }

    private boolean isFair(List<Integer> row) {
        for (int a = 0; a < colours; a++) {
            for (int b = 0; b < colours; b++) {
                if (often(row, a) - often(row, b) > 1) {
                    return false;
                }
            }
        }
        return true;
    }

    private boolean isTurned(List<Integer> row) {
        List<Integer> rightDown = new ArrayList<>();
        List<Integer> leftUp = new ArrayList<>();
        for (List<Integer> line : triangle(row)) {
            rightDown.add(line.get(line.size() - 1));
            leftUp.add(0, line.get(0));
        }
        return row.equals(rightDown) && row.equals(leftUp);
    }

    private boolean isRow(int row) {
        return row >= 0 && row < state.rows.size();
    }

    private boolean isColour(int colour) {
        return colour >= 0 && colour < colours;
    }

    private boolean isIn(int row, int depth, int seat) {
        return isRow(row) && depth >= 0 && depth < state.rows.get(row).size() && seat >= 0
                && seat < state.rows.get(row).size() - depth;
    }

    int child(int left, int right) {
        return isColour(left) && isColour(right) ? childOf(left, right) : -1;
    }

    int row(int row, int what) {
        if (!isRow(row)) {
            return -1;
        }
        List<Integer> it = state.rows.get(row);
        int worths = 0;
        for (int depth = 0; depth < it.size(); depth++) {
            for (int seat = 0; seat < it.size() - depth; seat++) {
                worths += worth(row, depth, seat);
            }
        }
        return switch (what) {
            case 0 -> it.size();
            case 1 -> number(it);
            case 2 -> last(it);
            case 3 -> paysOf(state, row);
            case 4 -> isFair(it) ? 1 : 0;
            case 5 -> isTurned(it) ? 1 : 0;
            case 6 -> worths;
            default -> -1;
        };
    }

    int at(int row, int depth, int seat) {
        return isIn(row, depth, seat) ? triangle(state.rows.get(row)).get(depth).get(seat) : -1;
    }

    int worth(int row, int depth, int seat) {
        if (!isIn(row, depth, seat)) {
            return -1;
        }
        List<Integer> it = state.rows.get(row);
        int colour = at(row, depth, seat);
        int left = depth == 0 ? 0 : at(row, depth - 1, seat);
        int right = depth == 0 ? 0 : at(row, depth - 1, seat + 1);
        return law("worth", colour, 99, colour, seat, depth, it.size(), amount(it, colour), state.time, row, left,
                right);
    }

    int many(int row, int colour) {
        return isRow(row) && isColour(colour) ? often(state.rows.get(row), colour) : -1;
    }

    int side(int row, int what, int i) {
        if (!isRow(row) || what < 0 || what > 1) {
            return -1;
        }
        return what == 0 ? at(row, i, 0) : i < 0 ? -1 : at(row, i, state.rows.get(row).size() - 1 - i);
    }

    int costs(int row, int seat, int colour) {
        boolean can = isIn(row, 0, seat) && isColour(colour) && state.rows.get(row).get(seat) != colour;
        return can ? costsOf(row, seat, colour) : -1;
    }

    // ---- things done

    private void remember() {
        undone.push(state.copy());
        if (undone.size() > 40) {
            undone.removeLast();
        }
    }

    int paint(int row, int seat, int colour) {
        int price = costs(row, seat, colour);
        if (price >= 0) {
            remember();
            state.rows.get(row).set(seat, colour);
            state = new State(state.rows, state.time, state.paid + price);
        }
        return price;
    }

    int come(int row, int colour) {
        if (!isRow(row) || !isColour(colour) || state.rows.get(row).size() == 8) {
            return -1;
        }
        remember();
        state.rows.get(row).add(colour);
        return state.rows.get(row).size();
    }

    int go(int row) {
        if (!isRow(row) || state.rows.get(row).size() == 1) {
            return -1;
        }
        remember();
        state.rows.get(row).remove(state.rows.get(row).size() - 1);
        return state.rows.get(row).size();
    }

    int times(int n) {
        if (n < 0 || n > 20) {
            return -1;
        }
        if (n > 0) {
            remember();
            state = in(n, seed);
        }
        return state.time;
    }

    boolean undo() {
        if (undone.isEmpty()) {
            return false;
        }
        state = undone.pop();
        return true;
    }

    static int lot(int n, int seed, int which) {
        int h = seed;
        for (int it : new int[] {213, which}) {
            h = (h ^ it) * 1103515245 + 12345;
            h = h ^ h >>> 15;
        }
        return (h >>> 1) % n;
    }

    private State in(int n, int bySeed) {
        State next = state.copy();
        for (int i = 0; i < n; i++) {
            State began = next.copy();
            int paid = began.paid;
            for (int r = 0; r < began.rows.size(); r++) {
                paid += paysOf(began, r);
                if (began.rows.get(r).size() >= 2) {
                    next.rows.set(r, born(began, r, bySeed));
                }
            }
            next = new State(next.rows, began.time + 1, paid);
        }
        return next;
    }

    private List<Integer> born(State began, int r, int bySeed) {
        List<Integer> row = began.rows.get(r);
        List<Integer> beneath = children(row);
        for (int i = 0; i < beneath.size(); i++) {
            int colour = beneath.get(i);
            int odds = law("odds", 0, 100, colour, i, 1, row.size(), amount(row, colour), began.time, r, row.get(i),
                    row.get(i + 1));
            if (lot(100, bySeed, 64 * began.time + 16 * r + i) < odds) {
                beneath.set(i, (colour + 1) % colours);
            }
        }
        return beneath;
    }

    // ---- what would be

    int makes(int colour, int n, int what) {
        if (!isColour(colour) || n < 1 || n > 8 || what < 0 || what > 1) {
            return -1;
        }
        int found = 0;
        int least = -2;
        for (int number = power(n) - 1; number >= 0; number--) {
            if (last(rowOf(number, n)) == colour) {
                found++;
                least = number;
            }
        }
        return what == 0 ? found : least;
    }

    private int cheapest(int row, int what, boolean counted, Predicate<List<Integer>> wanted) {
        List<Integer> it = state.rows.get(row);
        int best = -2;
        int bestNumber = -2;
        for (int number = 0; number < power(it.size()); number++) {
            List<Integer> other = rowOf(number, it.size());
            int price = 0;
            for (int i = 0; i < it.size(); i++) {
                if (!other.get(i).equals(it.get(i))) {
                    price += counted ? 1 : costsOf(row, i, other.get(i));
                }
            }
            if ((best == -2 || price < best) && wanted.test(other)) {
                best = price;
                bestNumber = number;
            }
        }
        return what == 0 ? best : bestNumber;
    }

    int repaint(int row, int colour, int what) {
        if (!isRow(row) || !isColour(colour) || what < 0 || what > 1) {
            return -1;
        }
        return cheapest(row, what, false, other -> last(other) == colour);
    }

    int fairly(int row, int what) {
        return !isRow(row) || what < 0 || what > 1 ? -1 : cheapest(row, what, true, this::isFair);
    }

    int matters(int row) {
        if (!isRow(row)) {
            return -1;
        }
        List<Integer> it = state.rows.get(row);
        int bits = 0;
        for (int i = 0; i < it.size(); i++) {
            for (int colour = 0; colour < colours; colour++) {
                List<Integer> other = new ArrayList<>(it);
                other.set(i, colour);
                bits |= last(other) != last(it) ? 1 << i : 0;
            }
        }
        return bits;
    }

    int parents(int row, int what) {
        if (!isRow(row) || what < 0 || what > 1) {
            return -1;
        }
        List<Integer> it = state.rows.get(row);
        int found = 0;
        int least = -2;
        for (int number = power(it.size() + 1) - 1; number >= 0; number--) {
            if (children(rowOf(number, it.size() + 1)).equals(it)) {
                found++;
                least = number;
            }
        }
        return what == 0 ? found : least;
    }

    int orphans(int n) {
        if (n < 1 || n > 8) {
            return -1;
        }
        Set<Integer> parented = new HashSet<>();
        for (int number = 0; number < power(n + 1); number++) {
            parented.add(number(children(rowOf(number, n + 1))));
        }
        return power(n) - parented.size();
    }

    private List<Integer> ringed(List<Integer> row) {
        List<Integer> next = children(row);
        next.add(childOf(row.get(row.size() - 1), row.get(0)));
        return next;
    }

    int ring(int row, int what) {
        if (!isRow(row) || what < 0 || what > 1) {
            return -1;
        }
        Map<List<Integer>, Integer> seen = new HashMap<>();
        List<Integer> next = state.rows.get(row);
        while (!seen.containsKey(next)) {
            seen.put(next, seen.size());
            next = ringed(next);
        }
        return what == 0 ? seen.get(next) : seen.size() - seen.get(next);
    }

    int after(int row, int n, int seat) {
        if (!isIn(row, 0, seat) || n < 0 || n > 1000000000) {
            return -1;
        }
        List<List<Integer>> seen = new ArrayList<>();
        Map<List<Integer>, Integer> when = new HashMap<>();
        List<Integer> next = state.rows.get(row);
        while (!when.containsKey(next)) {
            when.put(next, seen.size());
            seen.add(next);
            next = ringed(next);
        }
        int lead = when.get(next);
        return seen.get(n < lead ? n : lead + (n - lead) % (seen.size() - lead)).get(seat);
    }

    int ways() {
        boolean[] holds = {true, true, true, true, true, false};
        for (int a = 0; a < colours; a++) {
            boolean neutral = true;
            for (int b = 0; b < colours; b++) {
                neutral &= childOf(a, b) == b && childOf(b, a) == b;
                holds[0] &= childOf(a, b) == childOf(b, a);
                for (int c = 0; c < colours; c++) {
                    holds[1] &= b == c || childOf(a, b) != childOf(a, c);
                    holds[2] &= b == c || childOf(b, a) != childOf(c, a);
                    holds[3] &= childOf(childOf(a, b), c) == childOf(a, childOf(b, c));
                }
            }
            holds[4] &= childOf(a, a) == a;
            holds[5] |= neutral;
        }
        int bits = 0;
        for (int i = 0; i < 6; i++) {
            bits |= holds[i] ? 1 << i : 0;
        }
        return bits;
    }

    int shut(int set) {
        if (set < 1 || set > (1 << colours) - 1) {
            return -1;
        }
        Set<Integer> closed = new HashSet<>();
        for (int colour = 0; colour < colours; colour++) {
            if ((set & 1 << colour) != 0) {
                closed.add(colour);
            }
        }
        boolean more = true;
        while (more) {
            Set<Integer> born = new HashSet<>();
            for (int left : closed) {
                for (int right : closed) {
                    born.add(childOf(left, right));
                }
            }
            more = closed.addAll(born);
        }
        return closed.stream().mapToInt(colour -> 1 << colour).sum();
    }

    /** By how often COLOURS divides the factorials; what is left of them is taken by its rest. */
    int deep(int n, int i) {
        if (n < 0 || n > 1000000000 || i < 0 || i > n) {
            return -1;
        }
        if (colours == 4) {
            return -2;
        }
        if (often(n) > often(i) + often(n - i)) {
            return 0;
        }
        int above = rest(n);
        int below = rest(i) * rest(n - i) % colours;
        for (int rest = 0; rest < colours; rest++) {
            if (rest * below % colours == above) {
                return rest;
            }
        }
        throw new IllegalStateException("no rest");
    }

    private int often(int n) {
        int sum = 0;
        for (int rest = n / colours; rest > 0; rest /= colours) {
            sum += rest;
        }
        return sum;
    }

    /** n! without all its factors COLOURS, its rest: of three numbers in a row those not divided make 1 * 2. */
    private int rest(int n) {
        int product = 1;
        for (int of = n; of > 0; of /= colours) {
            product = product * (colours == 3 && of / 3 % 2 == 1 ? 2 : 1) % colours;
            product = product * (of % colours == 2 ? 2 : 1) % colours;
        }
        return product;
    }

    int game(int colour, int n, int what) {
        if (!isColour(colour) || n < 1 || n > 8 || what < 0 || what > 1) {
            return -1;
        }
        for (int first = 0; first < colours; first++) {
            List<Integer> painted = new ArrayList<>(List.of(first));
            if (firstWins(painted, colour, n)) {
                return what == 0 ? 1 : first;
            }
        }
        return what == 0 ? 2 : -2;
    }

    private boolean firstWins(List<Integer> painted, int colour, int n) {
        if (painted.size() == n) {
            return last(painted) == colour;
        }
        boolean firstsTurn = painted.size() % 2 == 0;
        for (int next = 0; next < colours; next++) {
            painted.add(next);
            boolean wins = firstWins(painted, colour, n);
            painted.remove(painted.size() - 1);
            if (wins == firstsTurn) {
                return wins;
            }
        }
        return !firstsTurn;
    }

    int then(int row, int n, int seat) {
        if (!isRow(row) || n < 0 || n > 20 || seat < 0 || seat > 7) {
            return -1;
        }
        List<Integer> it = in(n, seed).rows.get(row);
        return seat < it.size() ? it.get(seat) : -2;
    }

    int paidIn(int n) {
        return n < 0 || n > 20 ? -1 : in(n, seed).paid;
    }

    int year(int row, int colour, int n, int s) {
        if (!isRow(row) || !isColour(colour) || n < 0 || n > 20 || s < 1 || s > 20) {
            return -1;
        }
        int hits = 0;
        for (int i = 0; i < s; i++) {
            hits += in(n, seed + i).rows.get(row).get(0) == colour ? 1 : 0;
        }
        return hits;
    }

    // ---- what is told

    int tell(int depth, int seat, int colour, boolean so) {
        if (known.size() == 20 || depth < 0 || depth > 5 || seat < 0 || seat > 5 || !isColour(colour)) {
            return -1;
        }
        known.add(new Known(depth, seat, colour, so));
        return known.size() - 1;
    }

    int forget() {
        int forgotten = known.size();
        known.clear();
        return forgotten;
    }

    private List<List<List<Integer>>> fitting(int k, int l) {
        List<List<List<Integer>>> found = new ArrayList<>();
        for (int number = 0; number < power(l); number++) {
            List<List<Integer>> triangle = triangle(rowOf(number, l));
            boolean fits = true;
            for (Known one : known.subList(0, k)) {
                boolean in = one.depth < l && one.seat < l - one.depth;
                fits &= in && (triangle.get(one.depth).get(one.seat) == one.colour) == one.so;
            }
            if (fits) {
                found.add(triangle);
            }
        }
        return found;
    }

    int rows(int k, int l, int what) {
        if (k < 0 || k > known.size() || l < 1 || l > 6 || what < 0 || what > 1) {
            return -1;
        }
        List<List<List<Integer>>> found = fitting(k, l);
        return what == 0 ? found.size() : found.isEmpty() ? -2 : number(found.get(0).get(0));
    }

    int look(int k, int l) {
        if (k < 0 || k > known.size() || l < 1 || l > 6) {
            return -1;
        }
        List<List<List<Integer>>> found = fitting(k, l);
        int best = -2;
        int fewest = found.size() + 1;
        for (int depth = 0; depth < l && !found.isEmpty(); depth++) {
            for (int seat = 0; seat < l - depth; seat++) {
                int[] left = new int[colours];
                for (List<List<Integer>> triangle : found) {
                    left[triangle.get(depth).get(seat)]++;
                }
                int worst = Arrays.stream(left).max().getAsInt();
                if (worst < fewest) {
                    fewest = worst;
                    best = 10 * depth + seat;
                }
            }
        }
        return best;
    }

    // ---- slots and counts

    boolean hold(int slot) {
        if (slot < 0 || slot > 2) {
            return false;
        }
        slots[slot] = state.copy();
        return true;
    }

    boolean restore(int slot) {
        if (slot < 0 || slot > 2 || slots[slot] == null) {
            return false;
        }
        state = slots[slot].copy();
        undone.clear();
        return true;
    }

    int count(int what) {
        int longs = 0;
        int fair = 0;
        int pays = 0;
        int lasts = 0;
        int inRows = 0;
        int single = 0;
        for (int r = 0; r < state.rows.size(); r++) {
            List<Integer> row = state.rows.get(r);
            longs += row.size();
            fair |= isFair(row) ? 1 << r : 0;
            pays += paysOf(state, r);
            lasts |= 1 << last(row);
            single |= row.size() == 1 ? 1 << r : 0;
            for (int colour : row) {
                inRows |= 1 << colour;
            }
        }
        int held = (int) Arrays.stream(slots).filter(slot -> slot != null).count();
        int[] answers = {colours, state.rows.size(), state.time, state.paid, longs, fair, pays, lasts, tape.length(),
                undone.size(), known.size(), held, inRows, single};
        return what >= 0 && what < answers.length ? answers[what] : -1;
    }
}
