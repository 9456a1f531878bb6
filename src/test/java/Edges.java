import java.util.Arrays;
import java.util.function.Consumer;

/**
 * What the tests of boundary cases share. A test quotes the words of the document that it holds the class to;
 * what fails is told with them.
 */
class Edges {
    static final int NONE = RowChildren.NONE;
    static final int NEVER = -2;
    static final int LOWEST = Integer.MIN_VALUE;
    static final int HIGHEST = Integer.MAX_VALUE;

    final Check check = new Check();

    /** A call whose arguments are told as numbers. */
    interface Call {
        int of(int[] a);
    }

    /** Such a call of a told object. */
    interface Deed {
        int of(RowChildren x, int[] a);
    }

    void says(String where, String quoted) {
        check.part(where + " says '" + quoted + "'");
    }

    void due(String call, long want, long got) {
        check.due(call, want, got);
    }

    void due(String call, boolean want, boolean got) {
        check.due(call, want, got);
    }

    void fault(String text, int number, int place) {
        RowChildren x = new RowChildren();
        String end = text.length() > 60 ? ".. " + text.substring(text.length() - 60) : text;
        due("read of '" + end + "'", number, Check.read(x, text));
        due("place of '" + end + "'", place, x.place());
        due("bytes on the tape behind '" + end + "'", 0, x.count(8));
    }

    /** A fault at the byte where the rest begins. */
    void faultAt(int number, String ahead, String rest) {
        fault(ahead + rest, number, ahead.length());
    }

    void noFault(String text) {
        fault(text, 0, NONE);
    }

    /**
     * Each argument by itself at both ends of its range, where the call has an answer, and beyond them, where it is
     * refused; the others are as told. Ranges are lowest and highest, one argument after another.
     */
    void edges(String name, int[] good, int[] ranges, Call call) {
        for (int i = 0; i < good.length; i++) {
            int low = ranges[2 * i];
            int high = ranges[2 * i + 1];
            for (int value : new int[] {low, high}) {
                due(name + " by argument " + i + " of " + value + " is answered", false, with(good, i, value, call) == NONE);
            }
            for (int value : new int[] {low - 1, high + 1, low - 8, high + 8, LOWEST, HIGHEST}) {
                due(name + " by argument " + i + " of " + value, NONE, with(good, i, value, call));
            }
        }
    }

    private static int with(int[] good, int i, int value, Call call) {
        int[] arguments = good.clone();
        arguments[i] = value;
        return call.of(arguments);
    }

    /** Three rows, laws, things done, slots, what is told and a tape: something of all that can be. */
    static RowChildren busy() {
        RowChildren x = Check.of("colours 3; child 0 1 2; child 2 2 0; row a 0 1 2 2 1 0 1 1; row b 1; row c 2 1 0;"
                + "worth = colour * 10 + depth + time; costs = seat + many + 1; odds = 40 + seat; pays = long + which;"
                + "seed 77;");
        x.paint(0, 3, 1);
        x.hold(0);
        x.come(2, 1);
        x.paint(2, 0, 0);
        x.hold(2);
        x.go(2);
        x.times(1);
        x.tell(0, 1, 2, true);
        x.tell(1, 0, 1, false);
        Check.feed(x, "row z 1 0 1");
        return x;
    }

    /** That a call leaves all as it is: an object with it and one without it answer alike from then on. */
    void leavesAll(String call, Consumer<RowChildren> calling) {
        RowChildren other = busy();
        calling.accept(other);
        alike(call + " leaves all as it is", busy(), other);
    }

    /** That a call with each of these arguments answers NONE, and that nothing happens. */
    void refused(String call, Deed deed, int[]... wrong) {
        for (int[] a : wrong) {
            RowChildren other = busy();
            due(call + " " + Arrays.toString(a), NONE, deed.of(other, a));
            alike(call + " " + Arrays.toString(a) + " leaves all as it is", busy(), other);
        }
    }

    void alike(String why, RowChildren one, RowChildren other) {
        String want = story(one);
        String got = story(other);
        check.due(why + " (" + want + " and " + got + ")", true, want.equals(got));
    }

    /** All that an object can still answer: how it is, what it was before, what its slots hold, what its tape is. */
    static String story(RowChildren x) {
        StringBuilder story = new StringBuilder(moment(x));
        for (int l = 1; l <= 3; l++) {
            story.append(' ').append(x.rows(x.count(10), l, 0)).append(' ').append(x.look(0, l));
        }
        for (int left = 0; left < 4; left++) {
            for (int right = 0; right < 4; right++) {
                story.append(' ').append(x.child(left, right));
            }
        }
        while (x.undo()) {
            story.append("; undone").append(moment(x));
        }
        for (int slot = 0; slot < 3; slot++) {
            story.append("; slot ").append(x.restore(slot)).append(moment(x));
        }
        x.feed(0x20303b20, 0x20202020, 0x20202020, 0x20202020, 0x20202020);
        story.append("; read ").append(x.read()).append(' ').append(x.place()).append(moment(x));
        return story.toString();
    }

    private static String moment(RowChildren x) {
        StringBuilder moment = new StringBuilder();
        for (int what = 0; what < 14; what++) {
            moment.append(' ').append(x.count(what));
        }
        int rows = x.count(1);
        for (int row = 0; row < rows; row++) {
            moment.append(" row ").append(x.row(row, 0)).append(' ').append(x.row(row, 1)).append(' ').append(x.row(row, 6));
            moment.append(' ').append(x.costs(row, 0, 0)).append(' ').append(x.costs(row, 0, 1));
            moment.append(' ').append(x.then(row, 1, 0)).append(' ').append(x.then(row, 2, 0));
        }
        return moment.append(" paid ").append(x.paidIn(2)).toString();
    }
}
