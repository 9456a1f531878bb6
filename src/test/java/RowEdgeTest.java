/** The boundary cases of rows, laws and what is done to rows: part II of the document, and promises 6 to 17. */
public final class RowEdgeTest extends Edges {
    private static final String ALL_0 = "child 0 0 0; child 0 1 0; child 1 0 0; child 1 1 0;";
    private static final String LEFT = "child 0 0 0; child 0 1 0; child 1 0 1; child 1 1 1;";
    private static final String RIGHT = "child 0 0 0; child 0 1 1; child 1 0 0; child 1 1 1;";
    /** Rows of 1, 2, 4 and 8, of three colours. */
    private static final String FOUR = "colours 3; row a 2; row b 0 1; row c 1 1 2 0; row d 2 0 1 1 0 2 2 1;";
    private static final int[] LONG = {1, 2, 4, 8};

    public static void main(String[] args) {
        RowEdgeTest test = new RowEdgeTest();
        test.child();
        test.row();
        test.number();
        test.last();
        test.fair();
        test.turned();
        test.worthAdded();
        test.at();
        test.worth();
        test.many();
        test.side();
        test.lawOfIfs();
        test.lawOfNumbers();
        test.lawOfNought();
        test.lawOfWhom();
        test.held();
        test.lot();
        test.generation();
        test.mishap();
        test.costs();
        test.paint();
        test.come();
        test.go();
        test.times();
        test.undo();
        test.fortyUndone();
        test.check.end();
    }

    private static RowChildren four() {
        return Check.of(FOUR);
    }

    // ---- promises 6 to 11

    private void child() {
        says("promise 6", "NONE: no such colours");
        for (int colours = 2; colours <= 4; colours++) {
            RowChildren x = Check.of("colours " + colours + ";");
            edges("child", new int[] {0, 0}, new int[] {0, colours - 1, 0, colours - 1}, a -> x.child(a[0], a[1]));
            due("both wrong", NONE, x.child(colours, colours));
            due("both wrong", NONE, x.child(-1, -1));
        }
    }

    private void row() {
        says("promise 7", "NONE for others");
        RowChildren x = four();
        edges("row", new int[] {0, 0}, new int[] {0, 3, 0, 6}, a -> x.row(a[0], a[1]));
        edges("row of one", new int[] {0, 0}, new int[] {0, 0, 0, 6}, a -> Check.of("row a 0;").row(a[0], a[1]));
        due("without ROWS", NONE, new RowChildren().row(0, 0));
        due("both wrong", NONE, x.row(4, 7));
        says("promise 7", "what 0 LONG");
        for (int row = 0; row < 4; row++) {
            due("LONG", LONG[row], x.row(row, 0));
        }
        says("promise 7", "3 PAYS");
        due("PAYS of 1", 1, x.row(0, 3));
        due("PAYS of 8", 8, x.row(3, 3));
    }

    private void number() {
        says("part III", "NUMBER of a ROW: its colours from the left as digits by COLOURS, the leftmost the highest");
        due("1 of 2", 1, Check.of("row a 1;").row(0, 1));
        due("0 of 8", 0, Check.of("row a 0 0 0 0 0 0 0 0;").row(0, 1));
        due("leftmost by 2", 128, Check.of("row a 1 0 0 0 0 0 0 0;").row(0, 1));
        due("leftmost by 3", 2 * 2187, Check.of("colours 3; row a 2 0 0 0 0 0 0 0;").row(0, 1));
        due("rightmost by 4", 3, Check.of("colours 4; row a 0 0 0 0 0 0 0 3;").row(0, 1));
        due("the highest by 2", 255, Check.of("row a 1 1 1 1 1 1 1 1;").row(0, 1));
        due("the highest by 3", 6560, Check.of("colours 3; row a 2 2 2 2 2 2 2 2;").row(0, 1));
        due("the highest by 4", 65535, Check.of("colours 4; row a 3 3 3 3 3 3 3 3;").row(0, 1));
    }

    private void last() {
        says("part II", "and so on to one alone, the LAST");
        due("of LONG 1 itself", 2, four().row(0, 2));
        due("of LONG 2 the child", 1, four().row(1, 2));
        due("of LONG 8 at DEPTH 7", 1, Check.of(LEFT + "row a 1 0 0 0 0 0 0 0;").row(0, 2));
        due("of LONG 8 at DEPTH 7", 1, Check.of(RIGHT + "row a 0 0 0 0 0 0 0 1;").row(0, 2));
        due("of LONG 8 at DEPTH 7", 0, Check.of(RIGHT + "row a 1 1 1 1 1 1 1 0;").row(0, 2));
    }

    private void fair() {
        says("part III", "FAIR: a TRIANGLE in which no colour is more than once oftener than another");
        due("once 1, never 0", 1, Check.of("row a 1;").row(0, 4));
        due("once 3, never 0, 1, 2", 1, Check.of("colours 4; row a 3;").row(0, 4));
        due("twice 0, once 1", 1, Check.of(ALL_0 + "row a 0 1;").row(0, 4));
        due("three times 0, never 1", 0, Check.of(ALL_0 + "row a 0 0;").row(0, 4));
        due("three times each", 1, Check.of(ALL_0 + "row a 1 1 1;").row(0, 4));
        due("four times 0, twice 1", 0, Check.of(ALL_0 + "row a 1 0 1;").row(0, 4));
        due("twice 1, once 0", 1, Check.of("row a 1 1;").row(0, 4));
        due("once 1, 2, 0", 1, Check.of("colours 3; row a 1 2;").row(0, 4));
        due("twice 1, once 2, never 0", 0, Check.of("colours 3; row a 1 1;").row(0, 4));
        due("once 1, 2, 3, never 0", 1, Check.of("colours 4; row a 1 2;").row(0, 4));
        due("twice 1, once 2, never 3", 0, Check.of("colours 4; row a 1 1;").row(0, 4));
        due("28 of 36", 0, Check.of(ALL_0 + "row a 1 1 1 1 1 1 1 1;").row(0, 4));
    }

    private void turned() {
        says("part III", "TURNED of a ROW: whether it reads from the left as its right SIDE down and as its left SIDE up");
        due("LONG 1", 1, Check.of("row a 1;").row(0, 5));
        due("0 0 over 0", 1, Check.of("row a 0 0;").row(0, 5));
        due("0 1 over 1", 0, Check.of("row a 0 1;").row(0, 5));
        due("1 0 over 1", 0, Check.of("row a 1 0;").row(0, 5));
        due("1 1 over 0", 0, Check.of("row a 1 1;").row(0, 5));
        due("0 1 0, right SIDE 0 0 0", 0, Check.of(RIGHT + "row a 0 1 0;").row(0, 5));
        due("0 1 0, right SIDE 0 1 0, left SIDE up 0 0 0", 0, Check.of(LEFT + "row a 0 1 0;").row(0, 5));
        due("0 1 0 over 0 1 over 0, left SIDE up 0 0 0", 0, Check.of("child 0 1 0; child 1 0 1; row a 0 1 0;").row(0, 5));
        due("eight", 1, Check.of("row a 0 0 0 0 0 0 0 0;").row(0, 5));
        RowChildren third = Check.of("colours 3; child 0 0 0; child 1 1 1; child 2 2 2; child 0 1 2; child 1 0 2; child 0 2 1;"
                + "child 2 0 1; child 1 2 0; child 2 1 0; row a 0 1 2 0; row b 0 1 0 2; row c 0 1; row d 2 1 0 2;");
        int[] turned = {1, 0, 0, 1};
        for (int row = 0; row < 4; row++) {
            due("the third colour, row " + row, turned[row], third.row(row, 5));
        }
        RowChildren longer = Check.of("row a 1 1 1 1 1 1 1 1; row b 0 0;");
        due("a longer one", 0, longer.row(0, 5));
        due("a shorter one behind it", 1, longer.row(1, 5));
        due("eight but for its end", 0, Check.of("row a 0 0 0 0 0 0 0 1;").row(0, 5));
    }

    private void worthAdded() {
        says("promise 7", "6 WORTH of its TRIANGLE, added");
        due("one", 2, four().row(0, 6));
        due("36 of 99", 36 * 99, Check.of("row a 0 0 0 0 0 0 0 0; worth = 9999;").row(0, 6));
        due("36 of 0", 0, Check.of("row a 0 0 0 0 0 0 0 0; worth = 0 - 9999;").row(0, 6));
        due("each held by itself", 7, Check.of("row a 1 0 0 0 0 0 0 0; worth = if 6 < depth then 7 else 0 - 9;").row(0, 6));
    }

    private void at() {
        says("promise 8", "NONE: no such ones");
        RowChildren x = four();
        for (int row = 0; row < 4; row++) {
            int it = row;
            edges("at seats of row " + row, new int[] {row, 0, 0}, new int[] {0, 3, 0, LONG[row] - 1, 0, LONG[row] - 1},
                    a -> x.at(a[0], a[1], a[2]));
            for (int depth = 0; depth < LONG[row]; depth++) {
                int lowest = depth;
                edges("at depth " + depth, new int[] {0}, new int[] {0, LONG[row] - 1 - depth}, a -> x.at(it, lowest, a[0]));
            }
        }
        due("without ROWS", NONE, new RowChildren().at(0, 0, 0));
        says("part II", "CHILDREN of a ROW: of the SEATS 0 and 1 the child at 0, and so on, one fewer");
        int[][] c = {{1, 1, 2, 0}, {2, 0, 2}, {2, 2}, {1}};
        for (int depth = 0; depth < 4; depth++) {
            for (int seat = 0; seat < c[depth].length; seat++) {
                due("at " + depth + " " + seat, c[depth][seat], x.at(2, depth, seat));
            }
        }
    }

    private void worth() {
        says("promise 9", "NONE: no such ones");
        RowChildren x = four();
        for (int row = 0; row < 4; row++) {
            int it = row;
            edges("worth in row " + row, new int[] {row, 0, 0}, new int[] {0, 3, 0, LONG[row] - 1, 0, LONG[row] - 1},
                    a -> x.worth(a[0], a[1], a[2]));
            for (int depth = 0; depth < LONG[row]; depth++) {
                int lowest = depth;
                edges("worth at depth " + depth, new int[] {0}, new int[] {0, LONG[row] - 1 - depth},
                        a -> x.worth(it, lowest, a[0]));
            }
        }
    }

    private void many() {
        says("promise 10", "NONE: no such ones");
        RowChildren x = four();
        edges("many", new int[] {0, 0}, new int[] {0, 3, 0, 2}, a -> x.many(a[0], a[1]));
        says("promise 10", "How often a colour is in a ROW's TRIANGLE");
        int[][] due = {{0, 0, 1}, {1, 2, 0}, {2, 3, 5}};
        for (int row = 0; row < 3; row++) {
            for (int colour = 0; colour < 3; colour++) {
                due("row " + row + ", colour " + colour, due[row][colour], x.many(row, colour));
            }
        }
        due("36 in all", 36, x.many(3, 0) + x.many(3, 1) + x.many(3, 2));
        due("never", 0, x.many(0, 0));
        due("once", 1, x.many(0, 2));
        due("28 of 36", 28, Check.of(ALL_0 + "row a 1 1 1 1 1 1 1 1;").many(0, 0));
        due("36 of 36", 36, Check.of(ALL_0 + "row a 0 0 0 0 0 0 0 0;").many(0, 0));
        due("none of 36", 0, Check.of(ALL_0 + "row a 0 0 0 0 0 0 0 0;").many(0, 1));
    }

    private void side() {
        says("promise 11", "SIDE: what 0 left, 1 right; NONE: no such ones");
        RowChildren x = four();
        for (int row = 0; row < 4; row++) {
            edges("side", new int[] {row, 0, 0}, new int[] {0, 3, 0, 1, 0, LONG[row] - 1}, a -> x.side(a[0], a[1], a[2]));
            edges("right side", new int[] {row, 1, 0}, new int[] {0, 3, 0, 1, 0, LONG[row] - 1}, a -> x.side(a[0], a[1], a[2]));
        }
        int[] left = {1, 2, 2, 1};
        int[] right = {0, 2, 2, 1};
        for (int i = 0; i < 4; i++) {
            due("left " + i, left[i], x.side(2, 0, i));
            due("right " + i, right[i], x.side(2, 1, i));
        }
        due("left of LONG 1", 2, x.side(0, 0, 0));
        due("right of LONG 1", 2, x.side(0, 1, 0));
    }

    // ---- laws

    private void law(String law, int want) {
        due(law, want, Check.of("row a 1 0; worth = " + law + ";").worth(0, 0, 0));
    }

    private void lawOfIfs() {
        says("part II", "LAWS: the E of the first if that holds (one less than the other), else the last one");
        law("if 1 < 2 then 3 else 4", 3);
        law("if 2 < 2 then 3 else 4", 4);
        law("if 3 < 2 then 3 else 4", 4);
        law("if 0 - 1 < 0 then 3 else 4", 3);
        law("if 0 < 0 - 1 then 3 else 4", 4);
        for (int first = 0; first <= 4; first++) {
            StringBuilder law = new StringBuilder();
            for (int i = 0; i < 4; i++) {
                law.append("if ").append(first).append(" < ").append(i + 1).append(" then ").append(10 + i).append(" else ");
            }
            law(law + "14", 10 + first);
        }
    }

    private void lawOfNumbers() {
        says("part II", "ints of 32 bits that wrap");
        String highest = "(8192 * 8192 * 31 + (8192 * 8191 + 8191))";
        law("if 0 < " + highest + " then 1 else 2", 1);
        law("if 0 < " + highest + " + 1 then 1 else 2", 2);
        law("if " + highest + " + 1 < 0 then 1 else 2", 1);
        law("if 0 < 0 - " + highest + " - 2 then 1 else 2", 1);
        law("if 0 - " + highest + " - 1 < 0 then 1 else 2", 1);
        law("8192 * 8192 * 64 + 5", 5);
        law(highest + " * 2 + 7", 5);
        law("if " + highest + " - (0 - 1) < 0 then 1 else 2", 1);
        says("part II", "/ rounded towards 0");
        law("7 / 2", 3);
        law("10 + (0 - 7) / 2", 7);
        law("10 + 7 / (0 - 2)", 7);
        law("10 + (0 - 7) / (0 - 2)", 13);
        law("10 + (0 - 1) / 2", 10);
        law("0 / 5 + 3", 3);
        law("if (8192 * 8192 * 32) / (0 - 1) < 0 then 1 else 2", 1);
        says("Terms", "E: PART {('+' | '-') PART}.");
        law("20 - 5 - 3", 12);
        law("20 - 5 + 3", 18);
        law("2 + 3 * 4", 14);
        law("20 - 12 / 4 * 2", 14);
        law("(20 - 12) / 4 * 2", 4);
        law("((((((9))))))", 9);
        law("if ((((((1)))))) < ((((((2)))))) then ((((((3)))))) else ((((((4))))))", 3);
        law("if ((((((2)))))) < ((((((2)))))) then ((((((3)))))) else ((((((4))))))", 4);
        says("Terms", "PART: UNIT {('*' | '/') UNIT}.");
        law("100 / 5 / 2", 10);
        law("7 / 2 * 2", 6);
        law("7 * 2 / 4", 3);
    }

    private void lawOfNought() {
        says("part II", "a LAW in which something that is looked at is divided by 0 is 0");
        law("1 / 0", 0);
        law("5 + 1 / 0", 0);
        law("5 + 0 / 0", 0);
        law("5 + 0 * (1 / 0)", 0);
        law("5 - 7 / (1 / 2)", 0);
        law("9 / (colour - 1) + 50", 0);
        law("if 1 / 0 < 2 then 3 else 4", 0);
        law("if 0 < 1 / 0 then 3 else 4", 0);
        law("if 2 < 1 then 3 else if 1 / 0 < 2 then 4 else 5", 0);
        law("if 1 < 2 then 3 / 0 else 4", 0);
        law("if 2 < 1 then 3 else 4 / 0", 0);
        law("if 1 < 2 then 3 else 4 / 0", 3);
        law("if 2 < 1 then 3 / 0 else 4", 4);
        law("if 1 < 2 then 3 else if 1 / 0 < 2 then 4 else 5", 3);
        RowChildren x = Check.of("row a 1 1; costs = 5 / seat; pays = 9 / time; odds = 100 / seat;");
        due("COSTS", 0, x.costs(0, 0, 0));
        due("COSTS", 5, x.costs(0, 1, 0));
        due("PAYS", 0, x.row(0, 3));
        due("ODDS", 0, x.then(0, 1, 0));
        x.times(1);
        due("nothing was paid", 0, x.count(3));
        due("PAYS at time 1", 9, x.row(0, 3));
    }

    private static int worthBy(String variable, int row, int depth, int seat) {
        return Check.of("colours 4; row z 0; row a 1 3 3 2; worth = " + variable + ";").worth(row, depth, seat);
    }

    /** Row a is 1 3 3 2, then 0 2 1, 2 3, 1. */
    private void lawOfWhom() {
        says("part II", "left, right: colours of those two whose child it is (DEPTH 0: 0)");
        for (int seat = 0; seat < 4; seat++) {
            due("left at DEPTH 0", 0, worthBy("left", 1, 0, seat));
            due("right at DEPTH 0", 0, worthBy("right", 1, 0, seat));
        }
        RowChildren eight = Check.of("row a 1 0 0 0 0 0 0 0; worth = left * 10 + right + 1;");
        due("the LAST", 1, eight.row(0, 2));
        for (int seat = 0; seat < 8; seat++) {
            due("left, right at DEPTH 0 of LONG 8", 1, eight.worth(0, 0, seat));
        }
        due("left at DEPTH 1", 1, worthBy("left", 1, 1, 0));
        due("right at DEPTH 1", 2, worthBy("right", 1, 1, 2));
        due("left of the LAST", 2, worthBy("left", 1, 3, 0));
        due("right of the LAST", 3, worthBy("right", 1, 3, 0));
        RowChildren x = Check.of("row a 1 1; worth = left + right + 3; costs = left + right + depth + 1;"
                + "pays = left + right + seat + depth + 1;");
        due("left, right of WORTH", 5, x.worth(0, 1, 0));
        due("left, right of COSTS", 1, x.costs(0, 1, 0));
        due("left, right of WORTH", 5, x.worth(0, 1, 0));
        due("left, right of PAYS", 1, x.row(0, 3));
        x.times(1);
        due("left, right of PAYS behind ODDS", 1, x.row(0, 3));
        says("part II", "many: how many of that colour are in the ROW (DEPTH 0)");
        due("none", 0, worthBy("many", 1, 1, 0));
        due("two", 2, worthBy("many", 1, 2, 1));
        due("eight", 8, Check.of("row a 1 1 1 1 1 1 1 1; worth = many;").worth(0, 0, 7));
        says("part II", "COSTS (of one at DEPTH 0 that is painted: colour: the new one; many: of it, ahead of that)");
        RowChildren y = Check.of("colours 3; row a 1 1 2; costs = colour * 10 + many;");
        due("a colour that is not there yet", 0, y.costs(0, 0, 0));
        due("one of it", 21, y.costs(0, 0, 2));
        due("two of it", 12, y.costs(0, 2, 1));
        says("part II", "PAYS of a ROW (of its SEAT 0)");
        due("PAYS", 13, Check.of("colours 3; row a 1 2 1 1; pays = colour * 10 + many;").row(0, 3));
        says("part II", "long: of the ROW");
        due("long at the LAST", 4, worthBy("long", 1, 3, 0));
        due("long of 1", 1, worthBy("long", 0, 0, 0));
        says("part II", "which: the ROW's number");
        due("which 0", 0, worthBy("which", 0, 0, 0));
        due("which 1", 1, worthBy("which", 1, 3, 0));
    }

    private void held() {
        says("part II", "held to 0 .. 99");
        int[] told = {0, 1, 98, 99, 100, 9999};
        for (int number : told) {
            int most = Math.min(number, 99);
            RowChildren x = Check.of("row a 0 0; worth = " + number + "; costs = " + number + "; pays = " + number + ";");
            due("WORTH " + number, most, x.worth(0, 1, 0));
            due("COSTS " + number, most, x.costs(0, 0, 1));
            due("PAYS " + number, most, x.row(0, 3));
            due("paid", most, x.paidIn(1));
        }
        RowChildren below = Check.of("row a 0 0; worth = 0 - 1; costs = 0 - 1; pays = 0 - 9999 * 9999; odds = 0 - 1;");
        due("WORTH below 0", 0, below.worth(0, 0, 0));
        due("COSTS below 0", 0, below.costs(0, 0, 1));
        due("PAYS below 0", 0, below.row(0, 3));
        says("part II", "ODDS (of one at DEPTH 1), held to 0 .. 100");
        for (int seed = 0; seed < 300; seed++) {
            String text = "row a 0 0; seed " + seed + "; odds = ";
            due("ODDS 100 by seed " + seed, 1, Check.of(text + "100;").then(0, 1, 0));
            due("ODDS 101 by seed " + seed, 1, Check.of(text + "101;").then(0, 1, 0));
            due("ODDS 0 by seed " + seed, 0, Check.of(text + "0;").then(0, 1, 0));
            due("ODDS below 0 by seed " + seed, 0, Check.of(text + "0 - 1;").then(0, 1, 0));
        }
        due("it is at DEPTH 1", 1, Check.of("row a 0 0; odds = if depth < 2 then depth * 100 else 0;").then(0, 1, 0));
        String colour = "odds = if colour < 2 then colour * 100 else 0;";
        due("its colour", 2, Check.of("colours 4; row a 1 0;" + colour).then(0, 1, 0));
        due("its colour, not its left's", 2, Check.of("colours 4; row a 1 1;" + colour).then(0, 1, 0));
        String many = "odds = if many < 2 then many * 100 else 0;";
        due("many of it", 2, Check.of("colours 3; row a 1 0 0;" + many).then(0, 1, 0));
        due("many of it", 0, Check.of("colours 3; row a 1 0 0;" + many).then(0, 1, 1));
        String length = "odds = if long < 4 then (long - 2) * 100 else 0;";
        due("long of the ROW", 2, Check.of("colours 3; row a 1 0 0;" + length).then(0, 1, 0));
        due("which", 1, Check.of("row z 0 0; row a 0 0; odds = which * 100;").then(1, 1, 0));
        due("which", 0, Check.of("row z 0 0; row a 0 0; odds = which * 100;").then(0, 1, 0));
        due("its left and right", 2, Check.of("colours 3; row a 1 0; odds = left * 50 + (1 - right) * 50;").then(0, 1, 0));
        due("its SEAT", 1, Check.of("row a 0 0 0; odds = seat * 100;").then(0, 1, 1));
        due("not its SEAT's right", 0, Check.of("row a 0 0 0; odds = seat * 100;").then(0, 1, 0));
    }

    // ---- lots and generations

    /** As the document says it, by long numbers whose low 32 bits are kept. */
    private static long lotOf100(long seed, long which) {
        long mask = 0xffffffffL;
        long h = seed;
        for (long it : new long[] {213, which}) {
            h = ((h ^ it) * 1103515245L + 12345L) & mask;
            h = h ^ (h >> 15);
        }
        return (h >> 1) % 100;
    }

    private void lot() {
        says("part II", "is less than ODDS of it");
        int[] seeds = {0, 1, 213, 4711, 9999};
        for (int seed : seeds) {
            for (int row = 0; row < 4; row++) {
                for (int seat = 0; seat < 7; seat++) {
                    lotOfOne(seed, 0, row, seat);
                }
            }
            lotOfOne(seed, 1, 0, 0);
            lotOfOne(seed, 20, 3, 6);
            lotOfOne(seed, 400, 1, 2);
        }
    }

    /** A mishap by ODDS one above the LOT, none by ODDS as high as it. */
    private void lotOfOne(int seed, int time, int row, int seat) {
        long lot = lotOf100(seed, 64L * time + 16L * row + seat);
        for (long odds = lot; odds <= lot + 1; odds++) {
            RowChildren x = Check.of("row a 0; row b 0; row c 0; row d 0; seed " + seed + "; odds = " + odds + ";");
            for (int gone = 0; gone < time; gone += 20) {
                x.times(Math.min(20, time - gone));
            }
            for (int i = 1; i < 8; i++) {
                x.come(row, 0);
            }
            due("LOT " + lot + " by seed " + seed + ", time " + time + ", row " + row + ", seat " + seat, odds - lot,
                    x.then(row, 1, seat));
        }
    }

    private void generation() {
        says("part II", "if it is LONG 2 or more, its CHILDREN are in its place");
        RowChildren x = Check.of("colours 3; row a 2; row b 2 2; row c 1 2 2; row d 1 0 0 0 0 0 0 2;");
        x.times(1);
        int[] longs = {1, 1, 2, 7};
        int[] numbers = {2, 1, 0 * 3 + 1, 729 + 2};
        for (int row = 0; row < 4; row++) {
            due("LONG", longs[row], x.row(row, 0));
            due("NUMBER", numbers[row], x.row(row, 1));
        }
        says("part II", "PAYS are paid");
        due("of LONG 1 too", 1 + 2 + 3 + 8, x.count(3));
        x.times(1);
        due("by how it was as it began", 14 + 1 + 1 + 2 + 7, x.count(3));
        RowChildren by = Check.of("row a 0 0 0; pays = long * 10 + time; odds = long * 100 - 200;");
        by.times(1);
        due("ODDS by how long it was", 3, by.row(0, 1));
        due("PAYS by how it was", 30, by.count(3));
        by.times(1);
        due("ODDS of the next", 0, by.row(0, 1));
        due("PAYS of the next", 30 + 21, by.count(3));
        says("part II", "It is the next time");
        due("time", 2, by.count(2));
        due("time without ROWS", 1, new RowChildren().times(1));
    }

    private void mishap() {
        says("part II", "of the next colour (behind the last 0)");
        for (int colours = 2; colours <= 4; colours++) {
            for (int colour = 0; colour < colours; colour++) {
                RowChildren x = Check.of("colours " + colours + "; odds = 100; row a " + colour + " 0;");
                due("behind " + colour + " of " + colours, (colour + 1) % colours, x.then(0, 1, 0));
            }
        }
        due("no mishap of LONG 1", 0, Check.of("odds = 100; row a 0;").then(0, 20, 0));
    }

    // ---- promises 12 to 17

    private void costs() {
        says("promise 12", "NONE: no such ones, its own colour");
        RowChildren x = four();
        RowChildren alike = Check.of("colours 3; row a 0 0; row b 0 0; row c 0 0; row d 0 0;");
        edges("costs", new int[] {0, 0, 1}, new int[] {0, 3, 0, 1, 1, 2}, a -> alike.costs(a[0], a[1], a[2]));
        RowChildren one = Check.of("colours 3; row a 2;");
        edges("costs of LONG 1", new int[] {0, 0, 1}, new int[] {0, 0, 0, 0, 0, 1}, a -> one.costs(a[0], a[1], a[2]));
        edges("costs of LONG 8", new int[] {0}, new int[] {0, 7}, a -> x.costs(3, a[0], a[0] == 0 ? 1 : 0));
        for (int row = 0; row < 4; row++) {
            for (int seat = 0; seat < LONG[row]; seat++) {
                for (int colour = 0; colour < 3; colour++) {
                    boolean own = x.at(row, 0, seat) == colour;
                    due("costs " + row + " " + seat + " " + colour, own ? NONE : 1, x.costs(row, seat, colour));
                }
            }
        }
        due("without ROWS", NONE, new RowChildren().costs(0, 0, 1));
        leavesAll("costs", y -> y.costs(0, 0, 1));
    }

    private void paint() {
        says("promise 13", "NONE, and nothing happens: no such ones, its own colour");
        refused("paint", (x, a) -> x.paint(a[0], a[1], a[2]), new int[] {-1, 0, 0}, new int[] {3, 0, 0},
                new int[] {0, -1, 0}, new int[] {0, 7, 0}, new int[] {1, 1, 0}, new int[] {0, 0, -1}, new int[] {0, 0, 3},
                new int[] {1, 0, 1}, new int[] {HIGHEST, 0, 0}, new int[] {0, LOWEST, 0}, new int[] {0, 0, HIGHEST});
        says("promise 13", "PAINTED: what is paid");
        RowChildren x = Check.of("row a 1; costs = 99;");
        due("the most", 99, x.paint(0, 0, 0));
        due("paid", 99, x.count(3));
        due("back again", 99, x.paint(0, 0, 1));
        due("paid", 198, x.count(3));
        RowChildren free = Check.of("row a 1; costs = 0;");
        due("for nothing", 0, free.paint(0, 0, 0));
        due("a thing done", 1, free.count(9));
        due("the colour", 0, free.row(0, 1));
        due("no time goes by", 0, free.count(2));
        RowChildren eight = Check.of("row a 0 0 0 0 0 0 0 0;");
        due("the last SEAT", 1, eight.paint(0, 7, 1));
        due("NUMBER", 1, eight.row(0, 1));
        due("the first SEAT", 1, eight.paint(0, 0, 1));
        due("NUMBER", 129, eight.row(0, 1));
    }

    private void come() {
        says("promise 14", "NONE, and nothing happens: 8 are there, no such ones");
        RowChildren x = Check.of("colours 3; row a 1;");
        for (int length = 2; length <= 8; length++) {
            due("come", length, x.come(0, length % 3));
        }
        due("8 are there", NONE, x.come(0, 0));
        due("LONG", 8, x.row(0, 0));
        due("things done", 7, x.count(9));
        due("at the right end", 8 % 3, x.at(0, 0, 7));
        refused("come", (y, a) -> y.come(a[0], a[1]), new int[] {-1, 0}, new int[] {3, 0}, new int[] {0, -1},
                new int[] {0, 3}, new int[] {LOWEST, 0}, new int[] {0, HIGHEST}, new int[] {4, 0}, new int[] {1, 4});
        RowChildren full = Check.of("row a 0 0 0 0 0 0 0 0; row b 1;");
        due("9th", NONE, full.come(0, 1));
        due("another ROW", 2, full.come(1, 1));
        due("nothing is paid", 0, full.count(3));
    }

    private void go() {
        says("promise 15", "NONE, and nothing happens: it is the only one, no such ROW");
        RowChildren x = Check.of("row a 1 0 0 0 0 0 0 1;");
        for (int length = 7; length >= 1; length--) {
            due("go", length, x.go(0));
        }
        due("the only one", NONE, x.go(0));
        due("it stays", 1, x.row(0, 1));
        due("things done", 7, x.count(9));
        refused("go", (y, a) -> y.go(a[0]), new int[] {1}, new int[] {-1}, new int[] {3}, new int[] {LOWEST},
                new int[] {HIGHEST});
        due("without ROWS", NONE, new RowChildren().go(0));
        RowChildren again = Check.of("row a 1 1;");
        again.go(0);
        again.come(0, 0);
        due("who comes then has a new colour", 2, again.row(0, 1));
    }

    private void times() {
        says("promise 16", "n GENERATIONS (0 .. 20; 0 is no thing done) go by: which time it is");
        due("0", 0, four().times(0));
        due("20", 20, four().times(20));
        RowChildren x = busy();
        due("0 at time 1", 1, x.times(0));
        leavesAll("times 0", y -> y.times(0));
        due("1 at time 1", 2, x.times(1));
        due("20 at time 2", 22, x.times(20));
        says("promise 16", "NONE, and nothing happens: no such n");
        refused("times", (y, a) -> y.times(a[0]), new int[] {-1}, new int[] {21}, new int[] {LOWEST}, new int[] {HIGHEST});
        RowChildren at = four();
        for (int i = 1; i <= 25; i++) {
            due("time", 20 * i, at.times(20));
        }
    }

    private void undo() {
        says("promise 17", "The last thing done (paint, come, go, times) is undone: true; false: there is none");
        due("of a new object", false, new RowChildren().undo());
        due("behind a text", false, four().undo());
        RowChildren x = four();
        x.paint(0, 0, 1);
        due("paint", true, x.undo());
        due("its colour", 2, x.row(0, 1));
        due("what was paid", 0, x.count(3));
        due("no more", false, x.undo());
        x.come(1, 1);
        due("come", true, x.undo());
        due("LONG", 2, x.row(1, 0));
        x.go(1);
        due("go", true, x.undo());
        due("NUMBER", 1, x.row(1, 1));
        x.times(20);
        due("times", true, x.undo());
        due("time", 0, x.count(2));
        due("LONG of all", 15, x.count(4));
        due("paid", 0, x.count(3));
        due("no more", false, x.undo());
        x.times(0);
        due("times 0 is no thing done", false, x.undo());
        x.hold(0);
        x.tell(0, 0, 0, true);
        x.then(0, 20, 0);
        due("hold, tell, then are no things done", false, x.undo());
        x.paint(0, 0, 3);
        x.come(3, 0);
        x.go(0);
        x.times(21);
        due("what is refused is no thing done", false, x.undo());
        due("TOLD stays", 1, x.count(10));
        due("SLOTS stay", 1, x.count(11));
    }

    private void fortyUndone() {
        says("promise 17", "the last 40 can be");
        RowChildren x = Check.of("row a 0;");
        for (int i = 1; i <= 40; i++) {
            x.times(1);
            due("things that can be undone", i, x.count(9));
        }
        x.paint(0, 0, 1);
        due("not 41", 40, x.count(9));
        x.times(5);
        due("not 42", 40, x.count(9));
        for (int i = 39; i >= 0; i--) {
            due("undo", true, x.undo());
            due("things left", i, x.count(9));
        }
        due("the 41st", false, x.undo());
        due("time", 2, x.count(2));
        due("the colour", 0, x.row(0, 1));
        for (int i = 0; i < 60; i++) {
            x.paint(0, 0, 1 - i % 2);
        }
        due("paid", 2 + 60, x.count(3));
        for (int i = 0; i < 40; i++) {
            due("undo again", true, x.undo());
        }
        due("the 41st again", false, x.undo());
        due("the colour behind 20 paintings", 0, x.row(0, 1));
        due("what was paid for them", 2 + 20, x.count(3));
    }
}
