import java.nio.charset.StandardCharsets;
import java.util.ArrayList;
import java.util.List;
import java.util.Random;

/** Many runs of calls by fixed seeds, each answer compared with the slow model's. An argument: how many runs. */
public final class ModelTest {
    private static final int RUNS = 1500;
    private static final int CALLS = 150;

    private final Random random;
    private final RowChildren it = new RowChildren();
    private final Model model = new Model();
    private final List<String> log = new ArrayList<>();
    private int colours = 2;

    private ModelTest(long seed) {
        random = new Random(seed);
    }

    public static void main(String[] args) {
        int runs = args.length > 0 ? Integer.parseInt(args[0]) : RUNS;
        long calls = 0;
        for (int run = 0; run < runs; run++) {
            ModelTest test = new ModelTest(run);
            if (!test.runCalls()) {
                System.out.println("run " + run + " differs from the model:");
                test.log.forEach(System.out::println);
                System.exit(1);
            }
            calls += test.log.size();
        }
        System.out.println(calls + " answers are as the model's");
    }

    private boolean runCalls() {
        boolean same = true;
        for (int i = 0; i < CALLS && same && log.size() < 500; i++) {
            same = i % 40 == 0 ? readText() : random.nextInt(60) == 0 ? readText() : call();
        }
        return same;
    }

    private boolean same(String call, int want, int got) {
        log.add(call + " answered " + got + (want == got ? "" : ", due is " + want));
        return want == got;
    }

    private boolean same(String call, boolean want, boolean got) {
        return same(call, want ? 1 : 0, got ? 1 : 0);
    }

    // ---- texts

    private boolean readText() {
        String text = random.nextInt(20) == 0 ? longText() : text();
        int damages = random.nextInt(3) == 0 ? 1 + random.nextInt(2) : 0;
        for (int i = 0; i < damages; i++) {
            text = damaged(text);
        }
        if (text.length() > 1990) {
            text = text.substring(0, 1990);
        }
        log.add("text: " + text);
        byte[] bytes = text.getBytes(StandardCharsets.ISO_8859_1);
        boolean same = true;
        for (int from = 0; from < bytes.length && same; from += 20) {
            int[] w = Check.words(bytes, from);
            same = same("feed", model.feed(w[0], w[1], w[2], w[3], w[4]), it.feed(w[0], w[1], w[2], w[3], w[4]));
        }
        int pad = (20 - bytes.length % 20) % 20;
        same = same && same("back(" + pad + ")", model.back(pad), it.back(pad));
        same = same && same("count(8)", model.count(8), it.count(8));
        same = same && same("read()", model.read(), it.read());
        same = same && same("place()", model.place(), it.place());
        colours = model.count(0);
        return same;
    }

    private String pick(String... of) {
        return of[random.nextInt(of.length)];
    }

    private String blank() {
        return random.nextInt(4) == 0 ? pick("  ", "\n", "\t ", "\r\n") : " ";
    }

    private String sep() {
        return random.nextInt(2) == 0 ? "" : blank();
    }

    private int colourBelow(int most) {
        return random.nextInt(60) == 0 ? random.nextInt(6) : random.nextInt(most);
    }

    private String text() {
        StringBuilder text = new StringBuilder();
        int most = 2 + random.nextInt(3);
        int tells = random.nextInt(12);
        if (most > 2 || random.nextBoolean()) {
            text.append("colours ").append(random.nextInt(40) == 0 ? random.nextInt(7) : most).append(sep()).append(";");
        }
        String[] names = {"a", "bb", "ccc", "rows", "abcdefgh", "colou", "z"};
        if (random.nextInt(8) != 0) {
            row(text, most, "first");
        }
        if (random.nextInt(3) == 0) {
            text.append("odds = ").append(random.nextInt(90)).append(pick("", " + seat * 3", " - colour * 9")).append(";");
        }
        for (int i = 0; i < tells; i++) {
            text.append(sep());
            switch (random.nextInt(8)) {
                case 0, 1 -> child(text, most);
                case 2, 3 -> row(text, most, names[(i + random.nextInt(2)) % names.length]);
                case 4, 5, 6 -> law(text, pick("worth", "costs", "odds", "pays"));
                default -> text.append("seed").append(sep()).append(random.nextInt(10000)).append(";");
            }
        }
        if (random.nextInt(4) == 0) {
            for (int i = 0; i < 16; i++) {
                child(text, most);
            }
        }
        return text.toString();
    }

    /** About as many tokens, or children, as there is room for. */
    private String longText() {
        StringBuilder text = new StringBuilder("row q 0 1 1;");
        int tells = random.nextBoolean() ? 128 + random.nextInt(8) : 18 + random.nextInt(5);
        for (int i = 0; i < tells; i++) {
            text.append(tells < 30 ? "child 0 1 " + random.nextInt(2) + ";" : "seed " + i + ";");
        }
        if (tells < 30) {
            return text.toString();
        }
        return text.append(pick("", "seed 1;", "seed 1 1;", "worth = 1 + 1;", "row a 0;", "?")).toString();
    }

    private void child(StringBuilder text, int most) {
        text.append("child ").append(colourBelow(most)).append(blank()).append(colourBelow(most)).append(blank())
                .append(colourBelow(most)).append(sep()).append(";");
    }

    private void row(StringBuilder text, int most, String name) {
        int seats = random.nextInt(30) == 0 ? 9 : 1 + random.nextInt(random.nextInt(12) == 0 ? 8 : 6);
        text.append("row ").append(name);
        for (int i = 0; i < seats; i++) {
            text.append(i == 0 ? sep() : blank()).append(colourBelow(most));
        }
        text.append(sep()).append(";");
    }

    private void law(StringBuilder text, String name) {
        text.append(name).append(sep()).append("=").append(sep());
        int ifs = random.nextInt(3) == 0 ? random.nextInt(6) : random.nextInt(2);
        for (int i = 0; i < ifs; i++) {
            text.append("if ").append(expression(2)).append(sep()).append("<").append(sep()).append(expression(2))
                    .append(" then ").append(expression(2)).append(" else ");
        }
        text.append(expression(3)).append(sep()).append(";");
    }

    private String expression(int depth) {
        if (random.nextInt(60) == 0) {
            int open = 5 + random.nextInt(3);
            return "(".repeat(open) + "1" + ")".repeat(open);
        }
        StringBuilder text = new StringBuilder();
        int units = 1 + random.nextInt(3);
        for (int i = 0; i < units; i++) {
            if (i > 0) {
                text.append(sep()).append(pick("+", "-", "*", "/")).append(sep());
            }
            text.append(unit(depth));
        }
        return text.toString();
    }

    private String unit(int depth) {
        int kind = random.nextInt(8);
        if (kind == 0 && depth > 0) {
            return "(" + expression(depth - 1) + ")";
        }
        if (kind <= 4) {
            return Model.VARIABLES.get(random.nextInt(Model.VARIABLES.size()));
        }
        return String.valueOf(random.nextInt(random.nextInt(4) == 0 ? 10000 : 60));
    }

    private String damaged(String text) {
        if (text.isEmpty()) {
            return pick(";", "?", " ", "row");
        }
        int at = random.nextInt(text.length());
        int end = Math.min(text.length(), at + 1 + random.nextInt(3));
        List<Model.Token> tokens = Model.tokens(text);
        Model.Token token = tokens.isEmpty() ? new Model.Token("", 0) : tokens.get(random.nextInt(tokens.size()));
        return switch (random.nextInt(7)) {
            case 0 -> text.substring(0, at) + text.substring(end);
            case 1 -> text.substring(0, at) + pick("?", ".", "A", "\u00e9", "\u0000", "12345", "abcdefghi") + text.substring(at);
            case 2 -> text.substring(0, at);
            case 3 -> text.substring(0, at) + pick(";", "=", "+", "-", "*", "/", "<", "(", ")", "0", "x") + text.substring(at);
            case 4 -> text.substring(0, at) + " " + pick("if", "then", "else", "row", "colours", "seat", "name", "7") + " " + text.substring(at);
            case 5 -> text.substring(0, token.place()) + text.substring(token.place() + token.text().length());
            default -> text + pick("row", "row a", "colours 2", "worth = 1", "worth = if 1", "  ", "child 0 0", "seed");
        };
    }

    // ---- calls

    private int near(int low, int high) {
        int kind = random.nextInt(40);
        if (kind == 0) {
            return high + 1;
        }
        if (kind == 1) {
            return low - 1;
        }
        if (kind == 2) {
            return random.nextInt(4) == 0 ? random.nextInt() : random.nextBoolean() ? Integer.MAX_VALUE : Integer.MIN_VALUE;
        }
        return low + random.nextInt(Math.max(1, high - low + 1));
    }

    private int rowArgument() {
        return near(0, Math.max(0, model.count(1) - 1));
    }

    private int lengthOf(int row) {
        return Math.max(1, model.row(row, 0));
    }

    private int colour() {
        return near(0, colours - 1);
    }

    private int dear(int most) {
        return random.nextInt(colours == 4 ? 60 : 12) == 0 ? near(1, most) : near(1, 5);
    }

    private int far() {
        return random.nextBoolean() ? near(0, 40) : random.nextBoolean() ? near(0, 1000000000) : near(0, 5000);
    }

    private boolean call() {
        int row = rowArgument();
        int what = near(0, 1);
        int seat = near(0, lengthOf(row) - 1);
        int depth = near(0, lengthOf(row) - 1);
        int n = near(0, 20);
        return switch (random.nextInt(6)) {
            case 0 -> smallCall(row, depth, seat);
            case 1 -> deed(row, seat, n);
            case 2 -> search(row, what);
            case 3 -> tableCall(row, what, seat);
            case 4 -> futureCall(row, n);
            default -> toldCall(what);
        };
    }

    private boolean smallCall(int row, int depth, int seat) {
        int a = colour();
        int b = colour();
        int what = near(0, 6);
        int side = near(0, 1);
        int most = near(0, 13);
        return switch (random.nextInt(8)) {
            case 0 -> same("child " + a + " " + b, model.child(a, b), it.child(a, b));
            case 1 -> same("row " + row + " " + what, model.row(row, what), it.row(row, what));
            case 2 -> same("at " + row + " " + depth + " " + seat, model.at(row, depth, seat), it.at(row, depth, seat));
            case 3 -> same("worth " + row + " " + depth + " " + seat, model.worth(row, depth, seat), it.worth(row, depth, seat));
            case 4 -> same("many " + row + " " + a, model.many(row, a), it.many(row, a));
            case 5 -> same("side " + row + " " + side + " " + depth, model.side(row, side, depth), it.side(row, side, depth));
            case 6 -> same("costs " + row + " " + seat + " " + a, model.costs(row, seat, a), it.costs(row, seat, a));
            default -> same("count " + most, model.count(most), it.count(most));
        };
    }

    private boolean deed(int row, int seat, int n) {
        int colour = colour();
        int few = random.nextInt(3) == 0 ? n : near(0, 2);
        int slot = near(0, 2);
        return switch (random.nextInt(9)) {
            case 0, 1 -> same("paint " + row + " " + seat + " " + colour, model.paint(row, seat, colour), it.paint(row, seat, colour));
            case 2, 3 -> same("come " + row + " " + colour, model.come(row, colour), it.come(row, colour));
            case 4 -> same("go " + row, model.go(row), it.go(row));
            case 5 -> same("times " + few, model.times(few), it.times(few));
            case 6 -> same("undo", model.undo(), it.undo());
            case 7 -> same("hold " + slot, model.hold(slot), it.hold(slot));
            default -> same("restore " + slot, model.restore(slot), it.restore(slot));
        };
    }

    private boolean search(int row, int what) {
        int colour = colour();
        int n = dear(8);
        boolean dear = lengthOf(row) > 5 && colours > 2 && random.nextInt(20) != 0;
        switch (random.nextInt(6)) {
            case 0: return same("makes " + colour + " " + n + " " + what, model.makes(colour, n, what), it.makes(colour, n, what));
            case 1: return dear || same("repaint " + row + " " + colour + " " + what, model.repaint(row, colour, what), it.repaint(row, colour, what));
            case 2: return dear || same("fairly " + row + " " + what, model.fairly(row, what), it.fairly(row, what));
            case 3: return same("matters " + row, model.matters(row), it.matters(row));
            case 4: return dear || same("parents " + row + " " + what, model.parents(row, what), it.parents(row, what));
            default: return same("game " + colour + " " + n + " " + what, model.game(colour, n, what), it.game(colour, n, what));
        }
    }

    private boolean tableCall(int row, int what, int seat) {
        int n = dear(8);
        int far = far();
        int set = near(1, (1 << colours) - 1);
        int down = far();
        int i = near(0, Math.max(0, down));
        return switch (random.nextInt(6)) {
            case 0 -> same("orphans " + n, model.orphans(n), it.orphans(n));
            case 1 -> same("ring " + row + " " + what, model.ring(row, what), it.ring(row, what));
            case 2 -> same("after " + row + " " + far + " " + seat, model.after(row, far, seat), it.after(row, far, seat));
            case 3 -> same("ways", model.ways(), it.ways());
            case 4 -> same("shut " + set, model.shut(set), it.shut(set));
            default -> same("deep " + down + " " + i, model.deep(down, i), it.deep(down, i));
        };
    }

    private boolean futureCall(int row, int n) {
        int colour = colour();
        int few = random.nextBoolean() ? n : near(0, 3);
        int seat = near(0, 7);
        int s = near(1, 20);
        return switch (random.nextInt(3)) {
            case 0 -> same("then " + row + " " + few + " " + seat, model.then(row, few, seat), it.then(row, few, seat));
            case 1 -> same("paidIn " + few, model.paidIn(few), it.paidIn(few));
            default -> same("year " + row + " " + colour + " " + few + " " + s, model.year(row, colour, few, s), it.year(row, colour, few, s));
        };
    }

    private boolean toldCall(int what) {
        int colour = colour();
        int depth = near(0, random.nextInt(4) == 0 ? 5 : 2);
        int seat = near(0, random.nextInt(4) == 0 ? 5 : 2);
        boolean so = random.nextInt(3) == 0;
        int k = near(0, model.count(10));
        int l = random.nextInt(6) == 0 ? near(1, 6) : near(2, 4);
        int kind = random.nextInt(20);
        if (kind == 0) {
            return same("forget", model.forget(), it.forget());
        }
        if (kind < 9) {
            return same("tell " + depth + " " + seat + " " + colour + " " + so, model.tell(depth, seat, colour, so), it.tell(depth, seat, colour, so));
        }
        return kind < 15 ? same("rows " + k + " " + l + " " + what, model.rows(k, l, what), it.rows(k, l, what))
                : same("look " + k + " " + l, model.look(k, l), it.look(k, l));
    }
}
