/** The boundary cases of what is told, of slots and of counts: part IV of the document, and promises 33 to 39. */
public final class ToldEdgeTest extends Edges {
    private static final String BOTH = "child 0 0 0; child 0 1 0; child 1 0 0; child 1 1 1;";
    private static final String ALL_0 = "child 0 0 0; child 0 1 0; child 1 0 0; child 1 1 0;";

    public static void main(String[] args) {
        ToldEdgeTest test = new ToldEdgeTest();
        test.tell();
        test.tellTwenty();
        test.forget();
        test.rows();
        test.notInTheTriangle();
        test.knownByTheFirst();
        test.look();
        test.lookOfAlikeOnes();
        test.hold();
        test.restore();
        test.restoreRefused();
        test.count();
        test.countOfRows();
        test.countOfBits();
        test.fiveHundredCalls();
        test.check.end();
    }

    // ---- promises 33 to 36

    private void tell() {
        says("promise 33", "It is TOLD: its number; NONE, and nothing happens: 20 are there, no such ones");
        for (int colours = 2; colours <= 4; colours++) {
            String text = "colours " + colours + ";";
            int[] ranges = {0, 5, 0, 5, 0, colours - 1};
            edges("tell so", new int[] {0, 0, 0}, ranges, a -> Check.of(text).tell(a[0], a[1], a[2], true));
            edges("tell not so", new int[] {5, 5, 0}, ranges, a -> Check.of(text).tell(a[0], a[1], a[2], false));
        }
        refused("tell", (x, a) -> x.tell(a[0], a[1], a[2], true), new int[] {-1, 0, 0}, new int[] {6, 0, 0},
                new int[] {0, -1, 0}, new int[] {0, 6, 0}, new int[] {0, 0, -1}, new int[] {0, 0, 3}, new int[] {LOWEST, 0, 0},
                new int[] {0, HIGHEST, 0}, new int[] {0, 0, HIGHEST}, new int[] {8, 8, 4});
        due("without ROWS", 0, new RowChildren().tell(5, 5, 1, true));
        due("what can not be", 0, Check.of("row a 0;").tell(3, 0, 1, true));
    }

    private void tellTwenty() {
        says("part IV", "20 at most, numbered from 0 on");
        RowChildren x = new RowChildren();
        for (int i = 0; i < 20; i++) {
            due("tell", i, x.tell(0, 0, 0, true));
            due("TOLD ones", i + 1, x.count(10));
        }
        due("the 21st", NONE, x.tell(0, 0, 1, true));
        due("TOLD ones", 20, x.count(10));
        due("nothing happens", 1, x.rows(20, 1, 0));
        due("KNOWN by 21", NONE, x.rows(21, 1, 0));
        x.forget();
        due("behind forget", 0, x.tell(0, 0, 1, true));
        due("nothing of what was", 1, x.rows(1, 1, 1));
    }

    private void forget() {
        says("promise 34", "All that was TOLD is forgotten: how many there were");
        due("none", 0, new RowChildren().forget());
        RowChildren x = busy();
        due("two", 2, x.forget());
        due("none then", 0, x.count(10));
        due("none then", 0, x.forget());
        due("KNOWN by 1", NONE, x.rows(1, 2, 0));
        due("nothing is known", 9, x.rows(0, 2, 0));
        due("what can be undone stays", 5, x.count(9));
        RowChildren full = new RowChildren();
        for (int i = 0; i < 21; i++) {
            full.tell(i % 6, 0, 0, true);
        }
        due("20", 20, full.forget());
    }

    private void rows() {
        says("promise 35", "what 0 how many FIT, 1 the least NUMBER (-2: none); NONE: no such ones");
        RowChildren x = busy();
        edges("rows", new int[] {0, 3, 0}, new int[] {0, 2, 1, 6, 0, 1}, a -> x.rows(a[0], a[1], a[2]));
        RowChildren nothing = new RowChildren();
        edges("rows without TOLD ones", new int[] {0, 3, 0}, new int[] {0, 0, 1, 6, 0, 1},
                a -> nothing.rows(a[0], a[1], a[2]));
        for (int colours = 2; colours <= 4; colours++) {
            RowChildren all = Check.of("colours " + colours + ";");
            int rows = 1;
            for (int l = 1; l <= 6; l++) {
                rows *= colours;
                due("all of " + l, rows, all.rows(0, l, 0));
                due("the least of " + l, 0, all.rows(0, l, 1));
            }
            all.tell(0, 0, colours - 1, true);
            for (int seat = 1; seat < 6; seat++) {
                all.tell(0, seat, colours - 1, true);
            }
            due("one of 6", 1, all.rows(6, 6, 0));
            due("the highest of 6", rows - 1, all.rows(6, 6, 1));
            all.tell(0, 5, colours - 1, false);
            due("none", 0, all.rows(7, 6, 0));
            due("none", NEVER, all.rows(7, 6, 1));
        }
    }

    private void notInTheTriangle() {
        says("part IV", "what is not in such a TRIANGLE is neither so nor not so: then none FITS");
        for (int depth = 0; depth < 6; depth++) {
            for (int seat = 0; seat < 6; seat++) {
                for (int l = 1; l <= 6; l++) {
                    boolean inside = depth + seat < l;
                    RowChildren so = new RowChildren();
                    so.tell(depth, seat, 1, true);
                    due("so at " + depth + " " + seat + " of " + l, inside ? 1 << l - 1 : 0, so.rows(1, l, 0));
                    due("the least", inside, so.rows(1, l, 1) != NEVER);
                    due("look", inside, so.look(1, l) != NEVER);
                    RowChildren not = new RowChildren();
                    not.tell(depth, seat, 1, false);
                    due("not so at " + depth + " " + seat + " of " + l, inside ? 1 << l - 1 : 0, not.rows(1, l, 0));
                    due("the least", inside ? 0 : NEVER, not.rows(1, l, 1));
                }
            }
        }
        due("of the ROWS that are there none matters", 2, Check.of("row a 0 1;").rows(0, 1, 0));
    }

    private void knownByTheFirst() {
        says("part IV", "KNOWN by k: the first k");
        RowChildren x = Check.of("colours 4;");
        for (int seat = 0; seat < 6; seat++) {
            x.tell(0, seat, 3, seat % 2 == 0);
        }
        int[] fits = {4096, 1024, 768, 192, 144, 36, 27};
        int[] least = {0, 3072, 3072, 3072 + 192, 3072 + 192, 3072 + 192 + 12, 3072 + 192 + 12};
        for (int k = 0; k <= 6; k++) {
            due("by " + k, fits[k], x.rows(k, 6, 0));
            due("the least by " + k, least[k], x.rows(k, 6, 1));
        }
        due("by 7", NONE, x.rows(7, 6, 0));
        due("by 2 in a ROW of 2", 3, x.rows(2, 2, 0));
        due("by 3 in a ROW of 2", 0, x.rows(3, 2, 0));
        says("part IV", "is of a colour, or is not");
        RowChildren y = new RowChildren();
        y.tell(0, 0, 0, true);
        y.tell(0, 0, 0, false);
        due("both can not be", 0, y.rows(2, 1, 0));
        due("the first can", 1, y.rows(1, 1, 0));
    }

    private void look() {
        says("promise 36", "-2: none FIT; NONE: no such ones");
        RowChildren x = busy();
        edges("look", new int[] {0, 3}, new int[] {0, 2, 1, 6}, a -> x.look(a[0], a[1]));
        RowChildren nothing = new RowChildren();
        edges("look without TOLD ones", new int[] {0, 3}, new int[] {0, 0, 1, 6}, a -> nothing.look(a[0], a[1]));
        RowChildren none = Check.of(ALL_0);
        none.tell(1, 0, 1, true);
        for (int l = 1; l <= 6; l++) {
            due("none FIT of " + l, NEVER, none.look(1, l));
            due("all of " + l, 0, none.look(0, l));
        }
        says("part IV", "LOOK of l: which one of the TRIANGLE (10 * the DEPTH + the SEAT) it is");
        RowChildren seats = new RowChildren();
        for (int seat = 0; seat < 5; seat++) {
            seats.tell(0, seat, 0, true);
        }
        due("the last SEAT of 6", 5, seats.look(5, 6));
        RowChildren below = Check.of("colours 4; child 0 0 0; child 0 1 1; child 1 0 2; child 1 1 3;");
        for (int seat = 0; seat < 6; seat++) {
            below.tell(0, seat, 2, false);
            below.tell(0, seat, 3, false);
        }
        due("beneath", 10, below.look(4, 2));
        due("beneath, of 6", 10, below.look(12, 6));
        for (int seat = 0; seat < 4; seat++) {
            below.tell(0, seat, 0, true);
        }
        due("beneath the last two", 14, below.look(16, 6));
    }

    private void lookOfAlikeOnes() {
        says("part IV", "fewest are left, at worst; of alike ones the first by DEPTH, then by SEAT");
        due("SEAT 0 of all", 0, new RowChildren().look(0, 6));
        due("LONG 1", 0, new RowChildren().look(0, 1));
        RowChildren x = new RowChildren();
        x.tell(0, 0, 1, true);
        due("SEAT 1 and not their child", 1, x.look(1, 2));
        RowChildren y = new RowChildren();
        y.tell(1, 0, 1, true);
        due("SEAT 0 and not SEAT 1", 0, y.look(1, 2));
        RowChildren one = new RowChildren();
        one.tell(0, 0, 1, true);
        one.tell(0, 1, 1, true);
        due("one alone FITS: the first of all", 0, one.look(2, 2));
        RowChildren worst = Check.of(BOTH);
        worst.tell(1, 0, 1, false);
        due("0 0, 0 1, 1 0: two at worst", 0, worst.look(1, 2));
        worst.tell(0, 0, 0, true);
        due("0 0, 0 1: one by SEAT 1", 1, worst.look(2, 2));
    }

    // ---- promises 37 to 39

    private void hold() {
        says("promise 37", "is held in a SLOT (0 .. 2): true; false: no such one");
        for (int slot = 0; slot < 3; slot++) {
            due("hold " + slot, true, new RowChildren().hold(slot));
        }
        for (int slot : new int[] {-1, 3, 4, LOWEST, HIGHEST}) {
            due("hold " + slot, false, busy().hold(slot));
            leavesAll("hold " + slot, x -> x.hold(slot));
        }
        says("promise 37", "All that goes on (not what is TOLD, nor the tape)");
        RowChildren x = busy();
        int numberThen = x.row(0, 1);
        int paidThen = x.count(3);
        x.hold(1);
        due("what can be undone stays", 5, x.count(9));
        x.paint(1, 0, 0);
        x.come(1, 0);
        x.times(3);
        x.tell(0, 0, 0, true);
        x.feed(0, 0, 0, 0, 0);
        x.restore(1);
        due("the ROWS", numberThen, x.row(0, 1));
        due("LONG", 1, x.row(1, 0));
        due("the colour", 1, x.row(1, 1));
        due("the time", 1, x.count(2));
        due("what was paid", paidThen, x.count(3));
        due("TOLD ones stay", 3, x.count(10));
        due("the tape stays", 31, x.count(8));
        RowChildren again = Check.of("row a 0;");
        again.hold(0);
        again.times(1);
        again.hold(0);
        again.times(1);
        again.restore(0);
        due("the later one is held", 1, again.count(2));
        due("one SLOT holds something", 1, again.count(11));
    }

    private void restore() {
        says("promise 38", "It goes on from what a SLOT holds (that stays there; nothing can be undone then): true");
        RowChildren x = Check.of("row a 0;");
        x.hold(2);
        for (int i = 0; i < 3; i++) {
            x.times(1);
            x.paint(0, 0, 1);
            due("restore", true, x.restore(2));
            due("the time", 0, x.count(2));
            due("the colour", 0, x.row(0, 1));
            due("things that can be undone", 0, x.count(9));
            due("undo", false, x.undo());
            due("SLOTS", 1, x.count(11));
        }
        x.times(1);
        due("what is done then can be undone", true, x.undo());
        due("that alone", false, x.undo());
        RowChildren nothing = new RowChildren();
        nothing.hold(0);
        due("of an object without ROWS", true, nothing.restore(0));
    }

    private void restoreRefused() {
        says("promise 38", "false, and nothing happens: no such one, nothing is held");
        for (int slot : new int[] {-1, 3, 1, LOWEST, HIGHEST}) {
            due("restore " + slot, false, busy().restore(slot));
            leavesAll("restore " + slot, x -> x.restore(slot));
        }
        for (int slot = 0; slot < 3; slot++) {
            due("of a new object", false, new RowChildren().restore(slot));
        }
        RowChildren x = Check.of("row a 0;");
        x.times(1);
        x.hold(0);
        due("a text with a FAULT", 1, Check.read(x, "?"));
        due("it is still held", true, x.restore(0));
        due("an empty text", 0, x.read());
        due("nothing is held", false, x.restore(0));
    }

    private void count() {
        says("promise 39", "NONE for others");
        edges("count", new int[] {0}, new int[] {0, 13}, a -> new RowChildren().count(a[0]));
        edges("count of a busy one", new int[] {0}, new int[] {0, 13}, a -> busy().count(a[0]));
        says("promise 39", "8 bytes on the tape");
        RowChildren x = new RowChildren();
        for (int i = 0; i < 101; i++) {
            x.feed(0, 0, 0, 0, 0);
        }
        due("full", 2000, x.count(8));
        x.back(1);
        due("one less", 1999, x.count(8));
        x.read();
        due("read", 0, x.count(8));
        says("promise 39", "9 things that can be undone, 10 TOLD ones, 11 SLOTS that hold something");
        RowChildren y = Check.of("row a 0;");
        for (int i = 0; i < 41; i++) {
            y.times(1);
            y.tell(0, 0, 0, true);
            y.hold(i % 4);
        }
        due("undone", 40, y.count(9));
        due("TOLD", 20, y.count(10));
        due("SLOTS", 3, y.count(11));
    }

    private void countOfRows() {
        says("promise 39", "4 LONG of all, added");
        RowChildren most = Check.of("row a 1 1 1 1 1 1 1 1; row b 1 1 1 1 1 1 1 1; row c 1 1 1 1 1 1 1 1;"
                + "row d 1 1 1 1 1 1 1 1; pays = 9999;");
        due("the most", 32, most.count(4));
        due("without ROWS", 0, new RowChildren().count(4));
        says("promise 39", "6 PAYS of all now, added");
        due("the most", 4 * 99, most.count(6));
        RowChildren now = Check.of("row a 0 0; row b 0; pays = time * 10 + long;");
        due("at time 0", 3, now.count(6));
        now.times(1);
        due("now", 22, now.count(6));
        due("not what was paid", 3, now.count(3));
        says("promise 39", "1 ROWS, 2 the time, 3 what was paid so far");
        due("ROWS", 4, most.count(1));
        most.times(20);
        due("the time", 20, most.count(2));
        due("paid", 20 * 4 * 99, most.count(3));
    }

    private void countOfBits() {
        for (int set = 0; set < 16; set++) {
            StringBuilder text = new StringBuilder();
            for (int row = 0; row < 4; row++) {
                text.append("row ").append((char) ('a' + row)).append((set >> row & 1) == 1 ? " 0;" : " 0 0;");
            }
            RowChildren x = Check.of(text.toString());
            says("promise 39", "13 ROWS of LONG 1 (bits)");
            due("LONG 1", set, x.count(13));
            says("promise 39", "5 ROWS that are FAIR (bits)");
            due("FAIR", set, x.count(5));
        }
        says("promise 39", "7 colours that are a LAST (bits)");
        due("without ROWS", 0, new RowChildren().count(7));
        due("all", 15, Check.of("colours 4; row a 0; row b 1; row c 2; row d 3;").count(7));
        due("the highest", 8, Check.of("colours 4; row a 3; row b 2 1; row c 3;").count(7));
        due("not what is in the ROWS", 4, Check.of("colours 4; row a 1 1;").count(7));
        says("promise 39", "12 colours that are in any ROW (bits)");
        due("without ROWS", 0, new RowChildren().count(12));
        due("not what is beneath", 2, Check.of("colours 4; row a 1 1;").count(12));
        due("all", 15, Check.of("colours 4; row a 0 0 0 0 0 0 0 1; row b 2; row c 3 3;").count(12));
        RowChildren gone = Check.of("row a 0 1;");
        gone.go(0);
        due("not who is gone", 1, gone.count(12));
        says("promise 39", "5 ROWS that are FAIR (bits)");
        due("without ROWS", 0, new RowChildren().count(5));
    }

    private void fiveHundredCalls() {
        says("What it is", "An object is used for at most 512 calls after it has been made");
        RowChildren x = new RowChildren();
        Check.feed(x, "row a 0;");
        x.read();
        int time = 0;
        for (int call = 3; call < 509; call += 2) {
            time += 20;
            due("time", time, x.times(20));
            due("paid", time, x.count(3));
        }
        due("undo", true, x.undo());
        due("time", time - 20, x.count(2));
    }
}
