/** The boundary cases of what would be and of what will be: part III of the document, and promises 18 to 32. */
public final class SearchEdgeTest extends Edges {
    private static final String BOTH = "child 0 0 0; child 0 1 0; child 1 0 0; child 1 1 1;";
    private static final String ALL_0 = "child 0 0 0; child 0 1 0; child 1 0 0; child 1 1 0;";
    private static final String LEFT = "child 0 0 0; child 0 1 0; child 1 0 1; child 1 1 1;";
    private static final String RIGHT = "child 0 0 0; child 0 1 1; child 1 0 0; child 1 1 1;";
    private static final int FARTHEST = 1000000000;

    public static void main(String[] args) {
        SearchEdgeTest test = new SearchEdgeTest();
        test.nothingHappens();
        test.makes();
        test.makesOfAll();
        test.repaint();
        test.repaintPrices();
        test.fairly();
        test.matters();
        test.parents();
        test.orphans();
        test.ring();
        test.after();
        test.ways();
        test.shut();
        test.deep();
        test.deepFarDown();
        test.game();
        test.then();
        test.paidIn();
        test.year();
        test.check.end();
    }

    /** Every child of four colours but that of 3 and 3 is 0. */
    private static String fourColours(int ofThrees) {
        StringBuilder text = new StringBuilder("colours 4;");
        for (int left = 0; left < 4; left++) {
            for (int right = 0; right < 4; right++) {
                int colour = left == 3 && right == 3 ? ofThrees : 0;
                text.append("child ").append(left).append(' ').append(right).append(' ').append(colour).append(';');
            }
        }
        return text.toString();
    }

    private static RowChildren rowsOf(int colours, int... longs) {
        StringBuilder text = new StringBuilder("colours " + colours + ";");
        for (int i = 0; i < longs.length; i++) {
            text.append("row ").append((char) ('a' + i)).append(" 1".repeat(longs[i])).append(';');
        }
        return Check.of(text.toString());
    }

    private void nothingHappens() {
        says("part III", "What would be (nothing happens)");
        leavesAll("makes", x -> x.makes(1, 8, 0));
        leavesAll("repaint", x -> x.repaint(0, 1, 1));
        leavesAll("fairly", x -> x.fairly(0, 0));
        leavesAll("matters", x -> x.matters(0));
        leavesAll("parents", x -> x.parents(0, 1));
        leavesAll("orphans", x -> x.orphans(8));
        leavesAll("ring", x -> x.ring(0, 1));
        leavesAll("after", x -> x.after(0, FARTHEST, 0));
        leavesAll("ways", x -> x.ways());
        leavesAll("shut", x -> x.shut(2));
        leavesAll("deep", x -> x.deep(9, 4));
        leavesAll("game", x -> x.game(0, 7, 0));
        leavesAll("then", x -> x.then(0, 20, 0));
        leavesAll("paidIn", x -> x.paidIn(20));
        leavesAll("year", x -> x.year(0, 1, 20, 20));
        leavesAll("rows", x -> x.rows(2, 6, 0));
        leavesAll("look", x -> x.look(1, 6));
        leavesAll("row", x -> x.row(0, 6));
        leavesAll("count", x -> x.count(5));
    }

    private void makes() {
        says("promise 18", "what 0 how many, 1 the least NUMBER (-2: none); NONE: no such ones");
        for (int colours = 2; colours <= 4; colours++) {
            RowChildren x = Check.of("colours " + colours + ";");
            edges("makes", new int[] {0, 3, 0}, new int[] {0, colours - 1, 1, 8, 0, 1}, a -> x.makes(a[0], a[1], a[2]));
        }
        RowChildren none = Check.of(ALL_0);
        for (int n = 2; n <= 8; n++) {
            due("none of " + n, 0, none.makes(1, n, 0));
            due("none of " + n, NEVER, none.makes(1, n, 1));
            due("all of " + n, 1 << n, none.makes(0, n, 0));
            due("all of " + n, 0, none.makes(0, n, 1));
        }
        due("1 of 1", 1, none.makes(1, 1, 0));
        due("1 of 1", 1, none.makes(1, 1, 1));
    }

    private void makesOfAll() {
        says("part III",
                "MAKES of a colour and n (1 .. 8): how many ROWS of n have a LAST of that colour; the least NUMBER of them");
        for (int colours = 2; colours <= 4; colours++) {
            RowChildren x = Check.of("colours " + colours + ";");
            int all = 1;
            for (int n = 1; n <= 8; n++) {
                for (int colour = 0; colour < colours; colour++) {
                    due("makes " + colour + " by " + n, all, x.makes(colour, n, 0));
                    due("the least", colour, x.makes(colour, n, 1));
                }
                all *= colours;
            }
        }
        RowChildren high = Check.of(fourColours(3));
        due("3 3 3 3 3 3 3 3 alone", 1, high.makes(3, 8, 0));
        due("the highest NUMBER", 65535, high.makes(3, 8, 1));
        due("never 2", NEVER, high.makes(2, 8, 1));
        RowChildren x = Check.of(LEFT);
        due("the first text", 128, x.makes(1, 8, 0));
        Check.read(x, BOTH);
        due("another text", 1, x.makes(1, 8, 0));
        due("another text", 255, x.makes(0, 8, 0));
        due("another text", 0, x.makes(0, 8, 1));
        due("a text with a FAULT", 1, Check.read(x, LEFT + "?"));
        due("still the other", 255, x.makes(1, 8, 1));
    }

    private void repaint() {
        says("promise 19", "what 0 COSTS, 1 the NUMBER; -2: it can not be; NONE: no such ones");
        RowChildren x = rowsOf(3, 1, 2, 4, 8);
        edges("repaint", new int[] {0, 0, 0}, new int[] {0, 3, 0, 2, 0, 1}, a -> x.repaint(a[0], a[1], a[2]));
        due("without ROWS", NONE, new RowChildren().repaint(0, 0, 0));
        RowChildren never = Check.of(ALL_0 + "row a 1 1; row b 1 1 1 1 1 1 1 1; row c 1;");
        for (int row = 0; row < 2; row++) {
            due("it can not be", NEVER, never.repaint(row, 1, 0));
            due("it can not be", NEVER, never.repaint(row, 1, 1));
            due("it is", 0, never.repaint(row, 0, 0));
        }
        due("LONG 1 as it is", 0, never.repaint(2, 1, 0));
        due("LONG 1 as it is", 1, never.repaint(2, 1, 1));
        due("LONG 1 painted", 1, never.repaint(2, 0, 0));
        due("LONG 1 painted", 0, never.repaint(2, 0, 1));
    }

    private void repaintPrices() {
        says("part III",
                "REPAINT of a ROW to a colour: the least COSTS of all SEATS painted other colours, each as it is now, added");
        RowChildren dear = Check.of(BOTH + "row a 0 0 0 0 0 0 0 0; costs = 99;");
        due("the most", 8 * 99, dear.repaint(0, 1, 0));
        due("all", 255, dear.repaint(0, 1, 1));
        RowChildren rising = Check.of("row a 0 0 0 0 0 0 0 0; costs = seat + 1;");
        due("the first of 8 SEATS", 1, rising.repaint(0, 1, 0));
        due("1 0 0 0 0 0 0 0", 128, rising.repaint(0, 1, 1));
        RowChildren falling = Check.of("row a 0 0 0 0 0 0 0 0; costs = 8 - seat;");
        due("the last of 8 SEATS", 1, falling.repaint(0, 1, 0));
        due("0 0 0 0 0 0 0 1", 1, falling.repaint(0, 1, 1));
        RowChildren byColour = Check.of("colours 4; row a 1; costs = colour * 10 + 1;");
        int[] prices = {1, 0, 21, 31};
        for (int colour = 0; colour < 4; colour++) {
            due("to " + colour, prices[colour], byColour.repaint(0, colour, 0));
            due("to " + colour, colour, byColour.repaint(0, colour, 1));
        }
        RowChildren many = Check.of(BOTH + "row a 0 0 0; costs = many * 10 + 1;");
        due("each as it is now", 3, many.repaint(0, 1, 0));
        RowChildren last = Check.of("row a 0 0 0 0; costs = 4 - seat;");
        due("the cheapest SEAT", 1, last.repaint(0, 1, 0));
        due("the cheapest SEAT", 1, last.repaint(0, 1, 1));
        RowChildren two = Check.of(RIGHT.replace("child 0 1 1", "child 0 1 0") + "row a 0 0; costs = 40 + seat * 50;");
        due("two cheap ones and not fewer dear ones", 130, two.repaint(0, 1, 0));
        says("part III", "the NUMBER then, of alike ones the least");
        due("0 1 and not 1 0", 1, Check.of("row a 0 0;").repaint(0, 1, 1));
        due("0 1 and not 1 0, from 1 1", 1, Check.of("row a 1 1;").repaint(0, 1, 1));
        RowChildren free = Check.of("row a 1 1 1; costs = 0;");
        due("for nothing", 0, free.repaint(0, 0, 0));
        due("0 0 0 and not 1 1 1", 0, free.repaint(0, 0, 1));
        due("as it is, though a lower NUMBER is made", 3, Check.of("row a 1 1;").repaint(0, 0, 1));
    }

    private void fairly() {
        says("promise 20", "what 0 how few, 1 the NUMBER; -2: it can not be; NONE: no such ones");
        RowChildren x = rowsOf(3, 1, 2, 4, 8);
        edges("fairly", new int[] {0, 0}, new int[] {0, 3, 0, 1}, a -> x.fairly(a[0], a[1]));
        due("without ROWS", NONE, new RowChildren().fairly(0, 0));
        RowChildren never = Check.of(ALL_0 + "row a 0 0 0 0; row b 0 0 0; row c 1; row d 0 0 0 0 0 0 0 0;");
        due("LONG 4 can not be", NEVER, never.fairly(0, 0));
        due("LONG 4 can not be", NEVER, never.fairly(0, 1));
        due("LONG 8 can not be", NEVER, never.fairly(3, 0));
        due("LONG 3, all of them", 3, never.fairly(1, 0));
        due("LONG 3, all of them", 7, never.fairly(1, 1));
        due("LONG 1 is", 0, never.fairly(2, 0));
        due("LONG 1 is", 1, never.fairly(2, 1));
        says("part III", "upon how few SEATS another colour must be painted so that it is FAIR; the NUMBER then, likewise");
        due("0 1 and not 1 0", 1, Check.of(ALL_0 + "row a 0 0;").fairly(0, 1));
        due("as it is", 2, Check.of(ALL_0 + "row a 1 0;").fairly(0, 1));
        due("as it is", 0, Check.of(ALL_0 + "row a 1 0;").fairly(0, 0));
        due("whatever it costs", 1, Check.of(ALL_0 + "row a 0 0; costs = 99 * (1 - seat);").fairly(0, 1));
        due("how few, not what it costs", 1, Check.of(ALL_0 + "row a 0 0; costs = 99;").fairly(0, 0));
    }

    private void matters() {
        says("promise 21", "MATTERS (bits); NONE: no such ROW");
        RowChildren x = rowsOf(2, 1, 2, 4, 8);
        edges("matters", new int[] {0}, new int[] {0, 3}, a -> x.matters(a[0]));
        due("without ROWS", NONE, new RowChildren().matters(0));
        due("LONG 1", 1, x.matters(0));
        due("LONG 2", 3, x.matters(1));
        due("LONG 8", 255, x.matters(3));
        due("none", 0, Check.of(ALL_0 + "row a 1 1 1 1 1 1 1 1;").matters(0));
        due("LONG 1 always", 1, Check.of(ALL_0 + "row a 1;").matters(0));
        due("the first", 1, Check.of(LEFT + "row a 1 1 1 1 1 1 1 1;").matters(0));
        due("the last", 128, Check.of(RIGHT + "row a 1 1 1 1 1 1 1 1;").matters(0));
        says("part III", "SEATS one of which alone painted some other colour makes the LAST another one");
        RowChildren some = Check.of("colours 3; child 0 0 0; child 0 1 0; child 0 2 0; child 1 0 0; child 1 1 0; child 1 2 0;"
                + "child 2 0 1; child 2 1 0; child 2 2 0; row a 0 0; row b 1 0;");
        due("by 2 alone, not by 1", 1, some.matters(0));
        due("by 2 alone, not by 0", 1, some.matters(1));
        due("both at once are not one", 0, Check.of(BOTH + "row a 0 0;").matters(0));
    }

    private void parents() {
        says("promise 22", "what 0 how many, 1 the least NUMBER (-2: none); NONE: no such ones");
        RowChildren x = rowsOf(3, 1, 2, 4, 8);
        edges("parents", new int[] {0, 0}, new int[] {0, 3, 0, 1}, a -> x.parents(a[0], a[1]));
        due("without ROWS", NONE, new RowChildren().parents(0, 0));
        RowChildren none = Check.of(ALL_0 + "row a 1; row b 0 0 0 0 0 0 0 1; row c 0; row d 0 0 0 0 0 0 0 0;");
        due("none", 0, none.parents(0, 0));
        due("none", NEVER, none.parents(0, 1));
        due("none for the last SEAT's sake", 0, none.parents(1, 0));
        due("none for the last SEAT's sake", NEVER, none.parents(1, 1));
        due("all of 2", 4, none.parents(2, 0));
        due("all of 2", 0, none.parents(2, 1));
        says("part III", "PARENTS of a ROW: how many ROWS, LONGER by 1, have it as their CHILDREN; the least NUMBER");
        due("all of 9", 512, none.parents(3, 0));
        due("all of 9 by 4", 262144, Check.of(fourColours(0) + "row a 0 0 0 0 0 0 0 0;").parents(0, 0));
        RowChildren added = Check.of("row a 1 0 1 0 0 0 0 1; row b 0 1;");
        due("two of 9", 2, added.parents(0, 0));
        due("0 1 1 0 0 0 0 0 1", 128 + 64 + 1, added.parents(0, 1));
        due("0 0 1", 1, added.parents(1, 1));
        RowChildren left = Check.of("colours 4; child 0 0 0; child 0 1 0; child 0 2 0; child 0 3 0; child 1 0 1; child 1 1 1;"
                + "child 1 2 1; child 1 3 1; child 2 0 2; child 2 1 2; child 2 2 2; child 2 3 2; child 3 0 3; child 3 1 3;"
                + "child 3 2 3; child 3 3 3; row a 0 1; row b 3 2 0 1;");
        due("0 1 and any", 4, left.parents(0, 0));
        due("0 1 0", 4, left.parents(0, 1));
        due("3 2 0 1 0", 3 * 256 + 2 * 64 + 4, left.parents(1, 1));
        RowChildren high = Check.of(fourColours(3) + "row a 3 3 3 3 3 3 3 3;");
        due("one of 9 by 4", 1, high.parents(0, 0));
        due("the highest NUMBER", 262143, high.parents(0, 1));
    }

    private void orphans() {
        says("promise 23", "ORPHANS; NONE: no such n");
        RowChildren x = Check.of(ALL_0);
        edges("orphans", new int[] {1}, new int[] {1, 8}, a -> x.orphans(a[0]));
        says("part III", "ORPHANS of n (1 .. 8): ROWS of n without PARENTS");
        for (int n = 1; n <= 8; n++) {
            due("all but one of " + n, (1 << n) - 1, x.orphans(n));
            due("none of " + n, 0, new RowChildren().orphans(n));
            due("none of " + n + " by 4", 0, Check.of("colours 4;").orphans(n));
        }
        int[] ofBoth = {0, 0, 1, 4};
        for (int n = 1; n <= 4; n++) {
            due("those with 1 0 1 or 1 0 0 1", ofBoth[n - 1], Check.of(BOTH).orphans(n));
        }
        due("all but one of 8 by 4", 65535, Check.of(fourColours(0)).orphans(8));
    }

    private void ring() {
        says("promise 24", "RING: what 0 behind how many, 1 how many more; NONE: no such ones");
        RowChildren x = rowsOf(3, 1, 2, 4, 8);
        edges("ring", new int[] {0, 0}, new int[] {0, 3, 0, 1}, a -> x.ring(a[0], a[1]));
        due("without ROWS", NONE, new RowChildren().ring(0, 0));
        says("part III", "(LONG 1: of itself and itself)");
        RowChildren one = Check.of("row a 1; row b 0;");
        due("1, then 0 for ever", 1, one.ring(0, 0));
        due("1, then 0 for ever", 1, one.ring(0, 1));
        due("0 for ever", 0, one.ring(1, 0));
        due("0 for ever", 1, one.ring(1, 1));
        RowChildren round = Check.of("colours 4; child 0 0 1; child 1 1 2; child 2 2 3; child 3 3 0; row a 2;");
        due("all four", 0, round.ring(0, 0));
        due("all four", 4, round.ring(0, 1));
        says("part III", "behind how many such steps there is a row first that will come again; behind how many more it does");
        RowChildren turning = Check.of(RIGHT + "row a 1 0 0 0 0 0 0 0; row b 1 0 0 0 1 0 0 0; row c 1 1 1 1 1 1 1 1;");
        int[] periods = {8, 4, 1};
        for (int row = 0; row < 3; row++) {
            due("none ahead", 0, turning.ring(row, 0));
            due("how many more", periods[row], turning.ring(row, 1));
        }
        RowChildren eight = Check.of("row a 1 0 0 0 0 0 0 0;");
        due("eight steps to nothing", 8, eight.ring(0, 0));
        due("nothing stays", 1, eight.ring(0, 1));
        says("part III", "behind these, the child of its last SEAT on the left and its first on the right");
        due("0 1 by the left", 0, Check.of(LEFT + "row a 0 1;").after(0, 1, 0));
        due("last 1, first 0, by the left", 1, Check.of(LEFT + "row a 0 1;").after(0, 1, 1));
        due("last 1, first 0, by the right", 0, Check.of(RIGHT + "row a 0 1;").after(0, 1, 1));
    }

    private void after() {
        says("promise 25", "AFTER; NONE: no such ones");
        RowChildren x = rowsOf(3, 1, 2, 4, 8);
        int[] longs = {1, 2, 4, 8};
        for (int row = 0; row < 4; row++) {
            edges("after", new int[] {row, 5, 0}, new int[] {0, 3, 0, FARTHEST, 0, longs[row] - 1},
                    a -> x.after(a[0], a[1], a[2]));
        }
        due("without ROWS", NONE, new RowChildren().after(0, 0, 0));
        says("part III", "AFTER n (0 .. 1,000,000,000) steps: the colour at a SEAT");
        RowChildren turning = Check.of(RIGHT + "row a 1 0 0 0 0 0 0 0; row b 1 0 0;");
        for (int seat = 0; seat < 8; seat++) {
            due("0 steps", seat == 0 ? 1 : 0, turning.after(0, 0, seat));
            due("1 step", seat == 7 ? 1 : 0, turning.after(0, 1, seat));
            due("8 steps", seat == 0 ? 1 : 0, turning.after(0, 8, seat));
            due("1,000,000,000 steps", seat == 0 ? 1 : 0, turning.after(0, FARTHEST, seat));
            due("999,999,999 steps", seat == 1 ? 1 : 0, turning.after(0, FARTHEST - 1, seat));
        }
        due("1,000,000,000 steps by three", 1, turning.after(1, FARTHEST, 2));
        RowChildren late = Check.of("colours 4; child 0 0 1; child 1 1 2; child 2 2 3; child 3 3 1; row a 0;");
        due("one ahead", 1, late.ring(0, 0));
        due("three more", 3, late.ring(0, 1));
        for (int n = 1; n <= 12; n++) {
            due("one ahead, then 1 2 3", (n - 1) % 3 + 1, late.after(0, n, 0));
        }
        due("1,000,000,000 steps", 1, late.after(0, FARTHEST, 0));
        RowChildren eight = Check.of("row a 1 0 0 0 0 0 0 0;");
        due("7 steps", 1, eight.after(0, 7, 3));
        due("8 steps", 0, eight.after(0, 8, 3));
        due("9 steps", 0, eight.after(0, 9, 0));
        due("1,000,000,000 steps", 0, eight.after(0, FARTHEST, 0));
    }

    private void ways() {
        says("part III", "TABLE's ways: for all colours a, b, c");
        for (int table = 0; table < 16; table++) {
            waysOf(table, 2);
        }
        for (int table = 0; table < 19683; table++) {
            waysOf(table, 3);
        }
        due("4, added", 47, Check.of("colours 4;").ways());
        due("one of 16 is another", 2 | 4, 6 & Check.of("colours 4; child 3 3 2;").ways());
        due("1 3 as 1 2", 0, 2 & Check.of("colours 4; child 1 3 3;").ways());
        due("3 1 as 2 1", 0, 4 & Check.of("colours 4; child 3 1 3;").ways());
        due("3 2 not as 2 3", 0, 1 & Check.of("colours 4; child 3 2 0;").ways());
        due("3 is neutral alone", 32, 32 & Check.of(neutralThree()).ways());
        due("3 is not on the left", 0, 32 & Check.of(neutralThree() + "child 3 2 1;").ways());
        due("3 is not on the right", 0, 32 & Check.of(neutralThree() + "child 2 3 1;").ways());
    }

    /** The ways of a table, and SHUT of each set, as the document's words say them; its digits are the children. */
    private void waysOf(int table, int colours) {
        int[][] c = new int[colours][colours];
        StringBuilder text = new StringBuilder("colours " + colours + ";");
        int rest = table;
        for (int both = 0; both < colours * colours; both++) {
            int left = both / colours;
            int right = both % colours;
            c[left][right] = rest % colours;
            rest /= colours;
            text.append("child ").append(left).append(' ').append(right).append(' ').append(c[left][right]).append(';');
        }
        RowChildren x = Check.of(text.toString());
        due("ways of " + text, bitsOf(c), x.ways());
        for (int set = 1; set < 1 << colours; set++) {
            due("shut " + set + " of " + text, closed(c, set), x.shut(set));
        }
    }

    private static int bitsOf(int[][] c) {
        int bits = 31;
        for (int a = 0; a < c.length; a++) {
            boolean neutral = true;
            for (int b = 0; b < c.length; b++) {
                neutral &= c[a][b] == b && c[b][a] == b;
                bits &= c[a][b] == c[b][a] ? ~0 : ~1;
                for (int d = 0; d < c.length; d++) {
                    bits &= b != d && c[a][b] == c[a][d] ? ~2 : ~0;
                    bits &= b != d && c[b][a] == c[d][a] ? ~4 : ~0;
                    bits &= c[c[a][b]][d] == c[a][c[b][d]] ? ~0 : ~8;
                }
            }
            bits &= c[a][a] == a ? ~0 : ~16;
            bits |= neutral ? 32 : 0;
        }
        return bits;
    }

    private static int closed(int[][] c, int set) {
        int closed = set;
        for (int step = 0; step < 50; step++) {
            for (int a = 0; a < c.length; a++) {
                for (int b = 0; b < c.length; b++) {
                    closed |= (closed >> a & closed >> b & 1) << c[a][b];
                }
            }
        }
        return closed;
    }

    private static String neutralThree() {
        return "colours 4; child 3 0 0; child 3 1 1; child 3 2 2; child 3 3 3; child 0 3 0; child 1 3 1; child 2 3 2;";
    }

    private void shut() {
        says("promise 27", "SHUT (bits); NONE: no such colours");
        for (int colours = 2; colours <= 4; colours++) {
            RowChildren x = Check.of("colours " + colours + ";");
            edges("shut", new int[] {1}, new int[] {1, (1 << colours) - 1}, a -> x.shut(a[0]));
            for (int bits = 1 << colours; bits <= 64; bits++) {
                due("shut of " + bits + " by " + colours, NONE, x.shut(bits));
            }
        }
        says("part III", "SHUT of colours (1 .. 15, bits): they and all that must come of them as children and theirs");
        RowChildren added = Check.of("colours 4;");
        int[] due = {1, 15, 15, 5, 5, 15, 15, 15, 15, 15, 15, 15, 15, 15, 15};
        for (int bits = 1; bits <= 15; bits++) {
            due("shut of " + bits, due[bits - 1], added.shut(bits));
        }
        RowChildren slow = Check.of("colours 4; child 3 3 2; child 3 2 1; child 2 3 3; child 2 2 2; child 3 1 0; child 1 3 1;"
                + "child 1 1 1; child 1 2 2; child 2 1 1;");
        due("one after another", 15, slow.shut(8));
        due("2 by itself", 4, slow.shut(4));
        RowChildren still = Check.of(BOTH);
        for (int bits = 1; bits <= 3; bits++) {
            due("by themselves", bits, still.shut(bits));
        }
    }

    private void deep() {
        says("promise 28", "DEEP; -2: COLOURS are 4; NONE: no such ones");
        for (int colours = 2; colours <= 4; colours++) {
            RowChildren x = Check.of("colours " + colours + ";");
            edges("deep", new int[] {7, 0}, new int[] {0, FARTHEST, 0, 7}, a -> x.deep(a[0], a[1]));
            edges("deep of the farthest", new int[] {0}, new int[] {0, FARTHEST}, a -> x.deep(FARTHEST, a[0]));
            due("0 over 0", colours == 4 ? NEVER : 1, x.deep(0, 0));
            due("0 over 1", NONE, x.deep(0, 1));
            due("2 over 3", NONE, x.deep(2, 3));
        }
        for (int n = 0; n <= 40; n++) {
            for (int i = 0; i <= n; i++) {
                due("by 4", NEVER, Check.of("colours 4;").deep(n, i));
            }
        }
    }

    private void deepFarDown() {
        says("part III", "whatever the TABLE");
        for (int n = 0; n <= 20; n++) {
            due("by 2", new RowChildren().deep(20, n), Check.of(ALL_0).deep(20, n));
        }
        says("part III", "DEEP of n (0 .. 1,000,000,000) and i (0 .. n), by COLOURS");
        RowChildren two = Check.of("colours 2;");
        RowChildren three = Check.of("colours 3;");
        for (int n : new int[] {FARTHEST, 999999999, 536870912, 536870911, 387420489, 387420488}) {
            due("over 0", 1, three.deep(n, 0));
            due("over itself", 1, three.deep(n, n));
            due("over 1 by 2", n % 2, two.deep(n, 1));
            due("over 1 by 3", n % 3, three.deep(n, 1));
            due("over all but 1 by 3", n % 3, three.deep(n, n - 1));
            for (int i = 1; i <= 5; i++) {
                due("by 2, by its bits", (i & ~n) == 0 ? 1 : 0, two.deep(n, i));
                due("by 3, of the two above", (three.deep(n - 1, i - 1) + three.deep(n - 1, i)) % 3, three.deep(n, i));
            }
        }
        due("2 to the 29th over its half", 0, two.deep(536870912, 268435456));
        due("one less over any", 1, two.deep(536870911, 268435456));
        due("3 to the 18th over its third", 0, three.deep(387420489, 129140163));
        due("2 over 1 by 3, 18 times", 1, three.deep(387420488, 193710244));
        due("2 over 1 by 3, 17 times", 2, three.deep(129140162, 64570081));
    }

    private void game() {
        says("promise 29", "what 0 who WINS, 1 the colour (-2: none; the other WINS); NONE: no such ones");
        for (int colours = 2; colours <= 4; colours++) {
            RowChildren x = Check.of("colours " + colours + ";");
            edges("game", new int[] {0, 3, 0}, new int[] {0, colours - 1, 1, 8, 0, 1}, a -> x.game(a[0], a[1], a[2]));
            for (int colour = 0; colour < colours; colour++) {
                due("of 1 the first", 1, x.game(colour, 1, 0));
                due("of 1 the colour itself", colour, x.game(colour, 1, 1));
                due("of 8 the other, who paints last", 2, x.game(colour, 8, 0));
                due("of 8 none", NEVER, x.game(colour, 8, 1));
                due("of 7 the first, who paints last", 1, x.game(colour, 7, 0));
                due("of 7 the lowest", 0, x.game(colour, 7, 1));
            }
        }
        RowChildren added = new RowChildren();
        for (int n = 1; n <= 8; n++) {
            due("who paints the last SEAT of " + n, n % 2 == 0 ? 2 : 1, added.game(1, n, 0));
        }
        RowChildren never = Check.of(ALL_0);
        RowChildren both = Check.of(BOTH);
        RowChildren left = Check.of(LEFT);
        for (int n = 2; n <= 8; n++) {
            due("never 1", 2, never.game(1, n, 0));
            due("never 1", NEVER, never.game(1, n, 1));
            due("always 0", 1, never.game(0, n, 0));
            due("always 0, the lowest", 0, never.game(0, n, 1));
            due("the other paints one 0", 2, both.game(1, n, 0));
            due("the first paints one 0", 1, both.game(0, n, 0));
            due("1 at first, not 0", 1, left.game(1, n, 1));
        }
        RowChildren three = Check.of("colours 3; child 0 0 0; child 0 1 1; child 0 2 2; child 1 0 2; child 1 1 2; child 1 2 2;"
                + "child 2 0 2; child 2 1 2; child 2 2 2;");
        due("1 and 2 would win, the lowest", 1, three.game(2, 2, 1));
    }

    private void then() {
        says("promise 30", "-2: it is not so LONG then; NONE: no such ones (SEATS 0 .. 7)");
        RowChildren x = rowsOf(2, 1, 2, 4, 8);
        edges("then", new int[] {3, 0, 0}, new int[] {0, 3, 0, 20, 0, 7}, a -> x.then(a[0], a[1], a[2]));
        edges("then of LONG 1", new int[] {0, 20, 7}, new int[] {0, 3, 0, 20, 0, 7}, a -> x.then(a[0], a[1], a[2]));
        due("without ROWS", NONE, new RowChildren().then(0, 0, 0));
        for (int n = 0; n <= 20; n++) {
            int length = Math.max(1, 8 - n);
            for (int seat = 0; seat < 8; seat++) {
                due("LONG in " + n, seat >= length, x.then(3, n, seat) == NEVER);
                due("LONG 1 in " + n, seat >= 1, x.then(0, n, seat) == NEVER);
            }
        }
        due("in 0", 1, x.then(3, 0, 7));
        due("in 1", 0, x.then(3, 1, 6));
        says("part III", "IN n GENERATIONS (0 .. 20): the colour at a SEAT of a ROW; what was paid so far");
        RowChildren late = Check.of("row a 0 0 0; odds = if time < 1 then 0 else 100;");
        due("in 1", 0, late.then(0, 1, 0));
        due("in 2", 1, late.then(0, 2, 0));
        late.times(1);
        due("by the time as it is", 1, late.then(0, 1, 0));
    }

    private void paidIn() {
        says("promise 31", "NONE: no such n");
        RowChildren x = rowsOf(2, 1, 2, 4, 8);
        edges("paidIn", new int[] {0}, new int[] {0, 20}, a -> x.paidIn(a[0]));
        edges("paidIn without ROWS", new int[] {0}, new int[] {0, 20}, a -> new RowChildren().paidIn(a[0]));
        says("promise 31", "IN n GENERATIONS what was paid so far and by then");
        due("in 0", 0, x.paidIn(0));
        due("in 1", 15, x.paidIn(1));
        x.paint(0, 0, 0);
        due("in 0, so far", 1, x.paidIn(0));
        x.times(1);
        due("in 0, so far", 16, x.paidIn(0));
        due("in 1", 16 + 1 + 1 + 3 + 7, x.paidIn(1));
        RowChildren dear = Check.of("row a 0; row b 0; row c 0; row d 0; pays = 100;");
        due("the most in 20", 20 * 4 * 99, dear.paidIn(20));
    }

    private void year() {
        says("promise 32", "YEAR; NONE: no such ones");
        RowChildren x = rowsOf(3, 1, 2, 4, 8);
        edges("year", new int[] {0, 0, 0, 1}, new int[] {0, 3, 0, 2, 0, 20, 1, 20}, a -> x.year(a[0], a[1], a[2], a[3]));
        due("without ROWS", NONE, new RowChildren().year(0, 0, 0, 1));
        due("s 0", NONE, x.year(0, 1, 0, 0));
        says("part III", "YEAR by s SEEDS (1 .. 20) from the text's SEED on");
        for (int s = 1; s <= 20; s++) {
            due("in 0, its colour", s, x.year(0, 1, 0, s));
            due("in 0, another", 0, x.year(0, 2, 0, s));
            for (int seed : new int[] {0, 1, 4711, 9980, 9999}) {
                int hits = 0;
                for (int more = 0; more < s; more++) {
                    hits += Model.lot(100, seed + more, 0) < 50 ? 1 : 0;
                }
                RowChildren half = Check.of("row a 0 0; odds = 50; seed " + seed + ";");
                due("mishaps by " + s + " from " + seed + " on", hits, half.year(0, 1, 1, s));
                due("the others", s - hits, half.year(0, 0, 1, s));
            }
        }
        RowChildren seats = Check.of("row a 1 0; row b 0 1 1;");
        due("SEAT 0 alone", 20, seats.year(1, 1, 1, 20));
        due("in 20", 20, seats.year(1, 1, 20, 20));
    }
}
