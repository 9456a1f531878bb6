/**
 * Rows of colours whose neighbours have children, and these children of their own, down to one last child.
 * The numbers of promises in comments are those of DOC.md.
 */
public final class RowChildren {
    public static final int NONE = -1;

    private static final int NEVER = -2;

    private static final int MOST_BYTES = 2000;
    private static final int FED_BYTES = 20;
    private static final int MOST_TOKENS = 400;
    private static final int MOST_LETTERS = 8;
    private static final int MOST_DIGITS = 4;
    private static final int MOST_CHILDREN = 20;
    private static final int MOST_IFS = 4;
    private static final int MOST_OPEN = 6;

    private static final int LEAST_COLOURS = 2;
    private static final int MOST_COLOURS = 4;
    private static final int MOST_ROWS = 4;
    private static final int MOST_SEATS = 8;
    private static final int MOST_GENERATIONS = 20;
    private static final int MOST_SEEDS = 20;
    private static final int MOST_SEED = 9999;
    private static final int FARTHEST = 1000000000;
    /** More than any price or any number of rows. */
    private static final int ENDLESS = 1000000000;

    private static final int MOST_TOLD = 20;
    private static final int TOLD_SIDE = 6;
    private static final int MOST_UNDONE = 40;
    private static final int SLOTS = 3;

    /** Far above the 65,536 rows that a ring can go through. */
    private static final int MOST_RING_STEPS = 1000000;

    private static final int SYNTAX = 1;
    private static final int ROOM = 2;
    private static final int TWICE = 3;
    private static final int WRONG = 5;
    private static final int UNKNOWN_COLOUR = 6;

    /** The words in quotes, eight signs each; a word's kind is its number here. */
    private static final String WORDS = "colours child   row     worth   costs   odds    pays    seed    if      then    else    colour  seat    depth   long    many    time    which   left    right   ";
    private static final int WORD_COUNT = 20;
    private static final String SIGNS = ";=+-*/<()";

    /** Kinds of tokens; a sign's kind is the sign itself, and all signs are above these. */
    private static final int COLOURS = 0;
    private static final int CHILD = 1;
    private static final int ROW = 2;
    private static final int WORTH = 3;
    private static final int PAYS = 6;
    private static final int SEED = 7;
    private static final int IF = 8;
    private static final int THEN = 9;
    private static final int ELSE = 10;
    private static final int FIRST_VARIABLE = 11;
    private static final int LAST_VARIABLE = 19;
    private static final int NAME = 20;
    private static final int INT = 21;
    private static final int END = 22;
    private static final int BAD = 23;

    private static final int WORTH_LAW = 0;
    private static final int COSTS_LAW = 1;
    private static final int ODDS_LAW = 2;
    private static final int PAYS_LAW = 3;
    private static final int LAW_COUNT = 4;
    private static final int MOST_WORTH = 99;
    private static final int MOST_ODDS = 100;

    private final Tape tape;
    private Text text;
    private Text draft;
    private int faultPlace;
    private final Family family;
    private final Family future;
    private final int[] newborn;
    private final Laws laws;
    private final Triangle triangle;
    private final Memory memory;
    private final Census census;
    private final Repainting repainting;
    private final Told told;

    public RowChildren() {
        tape = new Tape();
        text = new Text();
        draft = new Text();
        faultPlace = NONE;
        family = new Family();
        future = new Family();
        newborn = new int[MOST_SEATS];
        laws = new Laws();
        triangle = new Triangle();
        memory = new Memory();
        census = new Census();
        repainting = new Repainting();
        told = new Told();
    }

    // ---- the tape (promises 2 to 5)

    public int feed(int a, int b, int c, int d, int e) {
        if (tape.length + FED_BYTES > MOST_BYTES) {
            return NONE;
        }
        tape.append(a);
        tape.append(b);
        tape.append(c);
        tape.append(d);
        tape.append(e);
        return tape.length;
    }

    public int back(int n) {
        if (n < 0 || n > tape.length) {
            return NONE;
        }
        tape.length -= n;
        return tape.length;
    }

    public int read() {
        draft.take(tape);
        tape.length = 0;
        faultPlace = draft.faultPlace;
        if (draft.fault != 0) {
            return draft.fault;
        }
        Text accepted = draft;
        draft = text;
        text = accepted;
        family.copyFrom(text.start);
        memory.clearUndone();
        memory.clearSlots();
        told.size = 0;
        census.clear();
        return 0;
    }

    public int place() {
        return faultPlace;
    }

    // ---- what is (promises 6 to 12)

    public int child(int left, int right) {
        return isColour(left) && isColour(right) ? text.table.childOf(left, right) : NONE;
    }

    public int row(int row, int what) {
        if (!isRow(row)) {
            return NONE;
        }
        triangle.fill(text.table, family, row);
        switch (what) {
            case 0: return family.lengthOf(row);
            case 1: return family.numberOf(row, text.table.colours);
            case 2: return triangle.lastChild();
            case 3: return paysOf(family, row);
            case 4: return triangle.isFair(text.table.colours) ? 1 : 0;
            case 5: return triangle.isTurned() ? 1 : 0;
            case 6: return allWorth(row);
            default: return NONE;
        }
    }

    public int at(int row, int depth, int seat) {
        if (!isRow(row)) {
            return NONE;
        }
        triangle.fill(text.table, family, row);
        return triangle.has(depth, seat) ? triangle.cell(depth, seat) : NONE;
    }

    public int worth(int row, int depth, int seat) {
        if (!isRow(row)) {
            return NONE;
        }
        triangle.fill(text.table, family, row);
        return triangle.has(depth, seat) ? worthOf(row, depth, seat) : NONE;
    }

    public int many(int row, int colour) {
        if (!isRow(row) || !isColour(colour)) {
            return NONE;
        }
        triangle.fill(text.table, family, row);
        return triangle.tally(triangle.length, colour);
    }

    public int side(int row, int what, int i) {
        if (!isRow(row) || !isOneOfTwo(what) || i < 0 || i >= family.lengthOf(row)) {
            return NONE;
        }
        triangle.fill(text.table, family, row);
        return what == 0 ? triangle.leftSide(i) : triangle.rightSide(i);
    }

    public int costs(int row, int seat, int colour) {
        return canPaint(row, seat, colour) ? costsOf(row, seat, colour) : NONE;
    }

    // ---- what is done (promises 13 to 17)

    public int paint(int row, int seat, int colour) {
        if (!canPaint(row, seat, colour)) {
            return NONE;
        }
        int price = costsOf(row, seat, colour);
        memory.remember(family);
        family.paid += price;
        family.setColour(row, seat, colour);
        return price;
    }

    public int come(int row, int colour) {
        if (!isRow(row) || !isColour(colour) || family.lengthOf(row) >= MOST_SEATS) {
            return NONE;
        }
        memory.remember(family);
        family.append(row, colour);
        return family.lengthOf(row);
    }

    public int go(int row) {
        if (!isRow(row) || family.lengthOf(row) <= 1) {
            return NONE;
        }
        memory.remember(family);
        family.setLength(row, family.lengthOf(row) - 1);
        return family.lengthOf(row);
    }

    public int times(int n) {
        if (!isGenerations(n)) {
            return NONE;
        }
        if (n > 0) {
            memory.remember(family);
            passGenerations(family, n, text.seed);
        }
        return family.time;
    }

    public boolean undo() {
        return memory.recall(family);
    }

    // ---- what would be (promises 18 to 25)

    public int makes(int colour, int n, int what) {
        if (!isColour(colour) || !isRowLength(n) || !isOneOfTwo(what)) {
            return NONE;
        }
        census.take(text.table, n);
        return what == 0 ? census.madeOf(n, colour) : census.leastOf(n, colour);
    }

    public int repaint(int row, int colour, int what) {
        if (!isRow(row) || !isColour(colour) || !isOneOfTwo(what)) {
            return NONE;
        }
        setPrices(row, true);
        repainting.towardsLast(text.table, family.lengthOf(row), colour);
        return repainting.answer(what);
    }

    public int fairly(int row, int what) {
        if (!isRow(row) || !isOneOfTwo(what)) {
            return NONE;
        }
        setPrices(row, false);
        repainting.towardsFair(text.table, family.lengthOf(row));
        return repainting.answer(what);
    }

    public int matters(int row) {
        if (!isRow(row)) {
            return NONE;
        }
        triangle.fill(text.table, family, row);
        int last = triangle.lastChild();
        int bits = 0;
        for (int seat = 0; seat < family.lengthOf(row); seat++) {
            if (otherLastBy(row, seat, last)) {
                bits |= 1 << seat;
            }
        }
        return bits;
    }

    public int parents(int row, int what) {
        if (!isRow(row) || !isOneOfTwo(what)) {
            return NONE;
        }
        int parentRows = text.table.countParents(family, row);
        if (what == 0) {
            return parentRows;
        }
        return parentRows == 0 ? NEVER : text.table.leastParents(family, row);
    }

    public int orphans(int n) {
        return isRowLength(n) ? text.table.countOrphans(n) : NONE;
    }

    public int ring(int row, int what) {
        if (!isRow(row) || !isOneOfTwo(what)) {
            return NONE;
        }
        text.table.findRing(family.packed(row), family.lengthOf(row));
        return what == 0 ? text.table.ringLead : text.table.ringPeriod;
    }

    public int after(int row, int n, int seat) {
        if (!isRow(row) || !isFar(n) || seat < 0 || seat >= family.lengthOf(row)) {
            return NONE;
        }
        int length = family.lengthOf(row);
        int packed = text.table.ringAfter(family.packed(row), length, n);
        return unpacked(packed, length, seat);
    }

    // ---- what the table is like (promises 26 to 29)

    public int ways() {
        Table table = text.table;
        int bits = table.isAlikeBothWays() ? 1 : 0;
        bits |= table.isUnlike(true) ? 2 : 0;
        bits |= table.isUnlike(false) ? 4 : 0;
        bits |= table.isAssociative() ? 8 : 0;
        bits |= table.keepsAlike() ? 16 : 0;
        bits |= table.hasNeutral() ? 32 : 0;
        return bits;
    }

    public int shut(int colours) {
        if (colours < 1 || colours >= 1 << text.table.colours) {
            return NONE;
        }
        return text.table.closureOf(colours);
    }

    public int deep(int n, int i) {
        if (!isFar(n) || i < 0 || i > n) {
            return NONE;
        }
        return text.table.colours == 4 ? NEVER : restOfWaysDown(n, i, text.table.colours == 3);
    }

    public int game(int colour, int n, int what) {
        if (!isColour(colour) || !isRowLength(n) || !isOneOfTwo(what)) {
            return NONE;
        }
        census.take(text.table, n);
        int first = census.winningStart(n, colour, text.table.colours);
        if (what == 0) {
            return first == NEVER ? 2 : 1;
        }
        return first;
    }

    // ---- what will be (promises 30 to 32)

    public int then(int row, int n, int seat) {
        if (!isRow(row) || !isGenerations(n) || seat < 0 || seat >= MOST_SEATS) {
            return NONE;
        }
        future.copyFrom(family);
        passGenerations(future, n, text.seed);
        return seat < future.lengthOf(row) ? future.colourAt(row, seat) : NEVER;
    }

    public int paidIn(int n) {
        if (!isGenerations(n)) {
            return NONE;
        }
        future.copyFrom(family);
        passGenerations(future, n, text.seed);
        return future.paid;
    }

    public int year(int row, int colour, int n, int s) {
        if (!isRow(row) || !isColour(colour) || !isGenerations(n) || s < 1 || s > MOST_SEEDS) {
            return NONE;
        }
        int hits = 0;
        for (int more = 0; more < s; more++) {
            future.copyFrom(family);
            passGenerations(future, n, text.seed + more);
            if (future.colourAt(row, 0) == colour) {
                hits++;
            }
        }
        return hits;
    }

    // ---- which row it was (promises 33 to 36)

    public int tell(int depth, int seat, int colour, boolean so) {
        boolean inside = depth >= 0 && depth < TOLD_SIDE && seat >= 0 && seat < TOLD_SIDE;
        if (!inside || !isColour(colour) || told.size >= MOST_TOLD) {
            return NONE;
        }
        told.append(depth, seat, colour, so);
        return told.size - 1;
    }

    public int forget() {
        int forgotten = told.size;
        told.size = 0;
        return forgotten;
    }

    public int rows(int k, int l, int what) {
        if (!isKnown(k) || !isToldLength(l) || !isOneOfTwo(what)) {
            return NONE;
        }
        told.findFits(text.table, k, l);
        return what == 0 ? told.fits : told.leastFit;
    }

    public int look(int k, int l) {
        if (!isKnown(k) || !isToldLength(l)) {
            return NONE;
        }
        told.findFits(text.table, k, l);
        return told.fits == 0 ? NEVER : told.bestLook(l);
    }

    // ---- slots and counts (promises 37 to 39)

    public boolean hold(int slot) {
        return memory.keep(slot, family);
    }

    public boolean restore(int slot) {
        if (!memory.bringBack(slot, family)) {
            return false;
        }
        memory.clearUndone();
        return true;
    }

    public int count(int what) {
        switch (what) {
            case 0: return text.table.colours;
            case 1: return family.rows;
            case 2: return family.time;
            case 3: return family.paid;
            case 4: return family.allLengths();
            case 5: return fairRows();
            case 6: return allPays();
            case 7: return lastColours();
            case 8: return tape.length;
            case 9: return memory.undoable;
            case 10: return told.size;
            case 11: return memory.slotsHeld();
            case 12: return family.allColours();
            case 13: return family.singleRows();
            default: return NONE;
        }
    }

    // ---- what an argument may be

    private boolean isRow(int row) {
        return row >= 0 && row < family.rows;
    }

    private boolean isColour(int colour) {
        return colour >= 0 && colour < text.table.colours;
    }

    private boolean canPaint(int row, int seat, int colour) {
        return isRow(row) && isColour(colour) && seat >= 0 && seat < family.lengthOf(row)
                && family.colourAt(row, seat) != colour;
    }

    private boolean isKnown(int k) {
        return k >= 0 && k <= told.size;
    }

    private static boolean isOneOfTwo(int what) {
        return what == 0 || what == 1;
    }

    private static boolean isRowLength(int n) {
        return n >= 1 && n <= MOST_SEATS;
    }

    private static boolean isToldLength(int l) {
        return l >= 1 && l <= TOLD_SIDE;
    }

    private static boolean isGenerations(int n) {
        return n >= 0 && n <= MOST_GENERATIONS;
    }

    private static boolean isFar(int n) {
        return n >= 0 && n <= FARTHEST;
    }

    // ---- laws

    /** The triangle must hold the row. */
    private int worthOf(int row, int depth, int seat) {
        laws.standOn(family, row, triangle.cell(depth, seat));
        laws.standAt(depth, seat);
        if (depth > 0) {
            laws.haveParents(triangle.cell(depth - 1, seat), triangle.cell(depth - 1, seat + 1));
        }
        return laws.held(text, WORTH_LAW, MOST_WORTH);
    }

    private int allWorth(int row) {
        int sum = 0;
        for (int depth = 0; depth < triangle.length; depth++) {
            for (int seat = 0; seat < triangle.length - depth; seat++) {
                sum += worthOf(row, depth, seat);
            }
        }
        return sum;
    }

    private int costsOf(int row, int seat, int colour) {
        laws.standOn(family, row, colour);
        laws.standAt(0, seat);
        return laws.held(text, COSTS_LAW, MOST_WORTH);
    }

    private int paysOf(Family rows, int row) {
        laws.standOn(rows, row, rows.colourAt(row, 0));
        return laws.held(text, PAYS_LAW, MOST_WORTH);
    }

    private int allPays() {
        int sum = 0;
        for (int row = 0; row < family.rows; row++) {
            sum += paysOf(family, row);
        }
        return sum;
    }

    // ---- generations

    private void passGenerations(Family rows, int n, int seed) {
        for (int i = 0; i < n; i++) {
            for (int row = 0; row < rows.rows; row++) {
                rows.paid += paysOf(rows, row);
                bearChildren(rows, row, seed);
            }
            rows.time++;
        }
    }

    /** The children wait in a row of their own, since the laws look at the whole row as it was. */
    private void bearChildren(Family rows, int row, int seed) {
        int length = rows.lengthOf(row) - 1;
        for (int seat = 0; seat < length; seat++) {
            int left = rows.colourAt(row, seat);
            int right = rows.colourAt(row, seat + 1);
            int colour = text.table.childOf(left, right);
            laws.standOn(rows, row, colour);
            laws.standAt(1, seat);
            laws.haveParents(left, right);
            int odds = laws.held(text, ODDS_LAW, MOST_ODDS);
            boolean mishap = lotOfHundred(seed, 64 * rows.time + 16 * row + seat) < odds;
            newborn[seat] = mishap ? text.table.nextColour(colour) : colour;
        }
        for (int seat = 0; seat < length; seat++) {
            rows.setColour(row, seat, newborn[seat]);
        }
        if (length >= 1) {
            rows.setLength(row, length);
        }
    }

    private static int lotOfHundred(int seed, int which) {
        return (mixed(mixed(seed, 213), which) >>> 1) % 100;
    }

    private static int mixed(int h, int more) {
        int product = (h ^ more) * 1103515245 + 12345;
        return product ^ (product >>> 15);
    }

    // ---- small questions

    /** What each seat is repainted for: by the law, or 1 each. */
    private void setPrices(int row, boolean byLaw) {
        for (int seat = 0; seat < family.lengthOf(row); seat++) {
            for (int colour = 0; colour < text.table.colours; colour++) {
                int price = byLaw ? costsOf(row, seat, colour) : 1;
                repainting.setPrice(seat, colour, family.colourAt(row, seat) == colour ? 0 : price);
            }
        }
    }

    private boolean otherLastBy(int row, int seat, int last) {
        int length = family.lengthOf(row);
        for (int colour = 0; colour < text.table.colours; colour++) {
            for (int i = 0; i < length; i++) {
                triangle.put(text.table, i, i == seat ? colour : family.colourAt(row, i));
            }
            if (triangle.lastChild() != last) {
                return true;
            }
        }
        return false;
    }

    /** n over i by a prime: the product of the digits' own, by Lucas. */
    private static int restOfWaysDown(int n, int i, boolean byThree) {
        int rest = 1;
        int above = n;
        int below = i;
        for (int digit = 0; digit < 32; digit++) {
            int a = byThree ? above % 3 : above % 2;
            int b = byThree ? below % 3 : below % 2;
            if (b > a) {
                return 0;
            }
            if (a == 2 && b == 1) {
                rest = rest * 2 % 3;
            }
            above = byThree ? above / 3 : above / 2;
            below = byThree ? below / 3 : below / 2;
        }
        return rest;
    }

    private int fairRows() {
        int bits = 0;
        for (int row = 0; row < family.rows; row++) {
            triangle.fill(text.table, family, row);
            if (triangle.isFair(text.table.colours)) {
                bits |= 1 << row;
            }
        }
        return bits;
    }

    private int lastColours() {
        int bits = 0;
        for (int row = 0; row < family.rows; row++) {
            triangle.fill(text.table, family, row);
            bits |= 1 << triangle.lastChild();
        }
        return bits;
    }

    /** A packed row has two bits for each seat, the leftmost seat's the highest. */
    private static int unpacked(int packed, int length, int seat) {
        return (packed >>> 2 * (length - 1 - seat)) & 3;
    }

    // ---- the classes inside

    /** The bytes that were fed and not read yet. */
    private static final class Tape {
        final byte[] bytes = new byte[MOST_BYTES];
        int length;

        /** Four bytes, the highest first. */
        void append(int word) {
            for (int shift = 24; shift >= 0; shift -= 8) {
                if (length < MOST_BYTES) {
                    bytes[length] = (byte) (word >>> shift);
                    length++;
                }
            }
        }

        /** A byte as 0 to 255; NONE behind the end. */
        int byteAt(int index) {
            return index >= 0 && index < length ? bytes[index] & 255 : NONE;
        }

        boolean isBlank(int index) {
            int sign = byteAt(index);
            return sign == 9 || sign == 10 || sign == 13 || sign == 32;
        }

        boolean isLetter(int index) {
            int sign = byteAt(index);
            return sign >= 'a' && sign <= 'z';
        }

        boolean isDigit(int index) {
            int sign = byteAt(index);
            return sign >= '0' && sign <= '9';
        }
    }

    /** The tokens of a text, up to the first thing that is none, or the end, or one token too many. */
    private static final class Tokens {
        final int[] kinds = new int[MOST_TOKENS + 1];
        final long[] values = new long[MOST_TOKENS + 1];
        final int[] places = new int[MOST_TOKENS + 1];
        int size;

        void scan(Tape tape) {
            size = 0;
            int next = 0;
            boolean more = true;
            for (int i = 0; i <= MOST_TOKENS && more; i++) {
                next = pastBlanks(tape, next);
                int end = endOf(tape, next);
                places[i] = next;
                kinds[i] = kindOf(tape, next, end);
                values[i] = codeOf(tape, next, end);
                more = kinds[i] != END && kinds[i] != BAD;
                next = end;
                size = i + 1;
            }
        }

        int kind(int index) {
            return index >= 0 && index < size ? kinds[index] : END;
        }

        long value(int index) {
            return index >= 0 && index < size ? values[index] : 0;
        }

        int start(int index) {
            return index >= 0 && index < size ? places[index] : NONE;
        }

        private static int pastBlanks(Tape tape, int from) {
            int next = from;
            while (next < tape.length && tape.isBlank(next)) {
                next++;
            }
            return next;
        }

        private static int endOf(Tape tape, int from) {
            int end = from;
            while (end < tape.length && tape.isLetter(end)) {
                end++;
            }
            if (end == from) {
                while (end < tape.length && tape.isDigit(end)) {
                    end++;
                }
            }
            return end == from && from < tape.length ? from + 1 : end;
        }

        private static int kindOf(Tape tape, int from, int end) {
            if (from >= tape.length) {
                return END;
            }
            if (tape.isLetter(from)) {
                return end - from > MOST_LETTERS ? BAD : wordOrName(tape, from, end);
            }
            if (tape.isDigit(from)) {
                return end - from > MOST_DIGITS ? BAD : INT;
            }
            int sign = tape.byteAt(from);
            return SIGNS.indexOf((char) sign) >= 0 ? sign : BAD;
        }

        private static int wordOrName(Tape tape, int from, int end) {
            for (int word = 0; word < WORD_COUNT; word++) {
                if (isWord(tape, from, end, word)) {
                    return word;
                }
            }
            return NAME;
        }

        private static boolean isWord(Tape tape, int from, int end, int word) {
            for (int i = 0; i < MOST_LETTERS; i++) {
                int sign = from + i < end ? tape.byteAt(from + i) : ' ';
                if (WORDS.charAt(word * MOST_LETTERS + i) != sign) {
                    return false;
                }
            }
            return true;
        }

        /** An INT's number; for letters a number that no other NAME has. */
        private static long codeOf(Tape tape, int from, int end) {
            long value = 0;
            for (int i = from; i < end; i++) {
                if (tape.isDigit(i)) {
                    value = value * 10 + tape.byteAt(i) - '0';
                } else {
                    value = value * 32 + tape.byteAt(i) - 'a' + 1;
                }
            }
            return value;
        }
    }

    /** A text: its fault, or else all that it tells. */
    private static final class Text {
        final Tokens tokens = new Tokens();
        final Table table = new Table();
        final Family start = new Family();
        /** Where the law's first token behind its = stands; NONE: it is not told. */
        final int[] lawStarts = new int[LAW_COUNT];
        final long[] names = new long[MOST_ROWS];
        int seed;
        int fault;
        int faultPlace;
        private int at;
        private int highestColour;

        Text() {
            tellNothing();
            table.fillGaps();
        }

        void take(Tape tape) {
            tellNothing();
            tokens.scan(tape);
            checkTells();
            if (fault == 0) {
                readTells();
            }
            if (fault != 0) {
                faultPlace = tokens.start(at);
            } else if (highestColour >= table.colours) {
                fault = UNKNOWN_COLOUR;
                faultPlace = tape.length;
            } else {
                table.fillGaps();
            }
        }

        private void tellNothing() {
            fault = 0;
            faultPlace = NONE;
            seed = 0;
            highestColour = 0;
            start.clear();
            table.clear();
            for (int law = 0; law < LAW_COUNT; law++) {
                lawStarts[law] = NONE;
            }
        }

        /** Nothing is passed once there is a fault, so that the token at hand tells its place. */
        private void step(boolean goesOn) {
            if (fault != 0) {
                return;
            }
            if (!goesOn) {
                fault = SYNTAX;
            } else if (at >= MOST_TOKENS) {
                fault = ROOM;
            } else {
                at++;
            }
        }

        private void expect(int kind) {
            step(tokens.kind(at) == kind);
        }

        private void checkTells() {
            int children = 0;
            int rows = 0;
            at = 0;
            for (int i = 0; i < MOST_TOKENS && fault == 0 && tokens.kind(at) != END; i++) {
                int kind = tokens.kind(at);
                children += kind == CHILD ? 1 : 0;
                rows += kind == ROW ? 1 : 0;
                if (children > MOST_CHILDREN || rows > MOST_ROWS) {
                    fault = ROOM;
                }
                step(kind >= COLOURS && kind <= SEED);
                if (kind == ROW) {
                    checkRow();
                } else if (kind >= WORTH && kind <= PAYS) {
                    checkLaw();
                } else {
                    checkNumbers(kind == CHILD ? 3 : 1);
                }
                expect(';');
            }
        }

        private void checkNumbers(int numbers) {
            for (int i = 0; i < numbers; i++) {
                expect(INT);
            }
        }

        private void checkRow() {
            expect(NAME);
            expect(INT);
            for (int seat = 1; seat <= MOST_SEATS && fault == 0 && tokens.kind(at) == INT; seat++) {
                if (seat == MOST_SEATS) {
                    fault = ROOM;
                } else {
                    step(true);
                }
            }
        }

        private void checkLaw() {
            expect('=');
            for (int ifs = 0; ifs <= MOST_IFS && fault == 0 && tokens.kind(at) == IF; ifs++) {
                if (ifs == MOST_IFS) {
                    fault = ROOM;
                } else {
                    step(true);
                    checkExpression(0);
                    expect('<');
                    checkExpression(0);
                    expect(THEN);
                    checkExpression(0);
                    expect(ELSE);
                }
            }
            checkExpression(0);
        }

        /** Which operator binds tighter is all the same here. */
        private void checkExpression(int open) {
            checkUnit(open);
            for (int i = 0; i < MOST_TOKENS && fault == 0 && isOperator(tokens.kind(at)); i++) {
                step(true);
                checkUnit(open);
            }
        }

        private void checkUnit(int open) {
            if (fault != 0) {
                return;
            }
            int kind = tokens.kind(at);
            if (kind != '(') {
                step(kind == INT || isVariable(kind));
            } else if (open >= MOST_OPEN) {
                fault = ROOM;
            } else {
                step(true);
                checkExpression(open + 1);
                expect(')');
            }
        }

        private void readTells() {
            at = 0;
            for (int i = 0; i < MOST_TOKENS && fault == 0 && tokens.kind(at) != END; i++) {
                int kind = tokens.kind(at);
                at++;
                readTell(kind);
                passSemicolon();
            }
        }

        private void readTell(int kind) {
            if (kind == COLOURS) {
                table.colours = readNumber(LEAST_COLOURS, MOST_COLOURS);
            } else if (kind == CHILD) {
                int left = readColour();
                int right = readColour();
                table.setChild(left, right, readColour());
            } else if (kind == ROW) {
                readRow();
            } else if (kind == SEED) {
                seed = readNumber(0, MOST_SEED);
            } else if (kind >= WORTH && kind <= PAYS) {
                lawStarts[kind - WORTH] = at + 1;
            }
        }

        private void passSemicolon() {
            if (fault != 0) {
                return;
            }
            while (at < MOST_TOKENS && tokens.kind(at) != ';') {
                at++;
            }
            at++;
        }

        private int readNumber(int least, int most) {
            long value = tokens.value(at);
            if (fault != 0 || value < least || value > most) {
                fault = fault != 0 ? fault : WRONG;
                return least;
            }
            at++;
            return (int) value;
        }

        private int readColour() {
            int colour = readNumber(0, MOST_COLOURS - 1);
            highestColour = Math.max(highestColour, colour);
            return colour;
        }

        private void readRow() {
            int row = start.rows;
            long name = tokens.value(at);
            for (int i = 0; i < row; i++) {
                if (names[i] == name) {
                    fault = TWICE;
                }
            }
            if (row >= MOST_ROWS || fault != 0) {
                return;
            }
            names[row] = name;
            start.rows++;
            at++;
            for (int seat = 0; seat < MOST_SEATS && fault == 0 && tokens.kind(at) == INT; seat++) {
                start.append(row, readColour());
            }
        }

        private static boolean isOperator(int kind) {
            return kind == '+' || kind == '-' || kind == '*' || kind == '/';
        }

        private static boolean isVariable(int kind) {
            return kind >= FIRST_VARIABLE && kind <= LAST_VARIABLE;
        }
    }

    /** The child of every two colours, and what follows from that alone. */
    private static final class Table {
        int colours;
        int ringLead;
        int ringPeriod;
        final int[] children = new int[MOST_COLOURS * MOST_COLOURS];
        private final int[] parentWays = new int[(MOST_SEATS + 1) * MOST_COLOURS];
        private final int[] rowsBySet = new int[1 << MOST_COLOURS];
        private final int[] longerBySet = new int[1 << MOST_COLOURS];

        void clear() {
            colours = LEAST_COLOURS;
            for (int i = 0; i < children.length; i++) {
                children[i] = NONE;
            }
        }

        void setChild(int left, int right, int colour) {
            children[(left & 3) * MOST_COLOURS + (right & 3)] = colour;
        }

        int childOf(int left, int right) {
            return children[(left & 3) * MOST_COLOURS + (right & 3)];
        }

        int nextColour(int colour) {
            return colour + 1 < colours ? colour + 1 : 0;
        }

        /** The children that were not told, once it is known how many colours there are. */
        void fillGaps() {
            for (int left = 0; left < MOST_COLOURS; left++) {
                for (int right = 0; right < MOST_COLOURS; right++) {
                    if (childOf(left, right) == NONE) {
                        setChild(left, right, colours > 0 ? (left + right) % colours : 0);
                    }
                }
            }
        }

        boolean isAlikeBothWays() {
            for (int a = 0; a < colours; a++) {
                for (int b = 0; b < a; b++) {
                    if (childOf(a, b) != childOf(b, a)) {
                        return false;
                    }
                }
            }
            return true;
        }

        /** Of one colour and any two unlike ones on its right, or else on its left, the children are unlike. */
        boolean isUnlike(boolean byRight) {
            for (int one = 0; one < colours; one++) {
                int seen = 0;
                for (int other = 0; other < colours; other++) {
                    seen |= 1 << (byRight ? childOf(one, other) : childOf(other, one));
                }
                if (Integer.bitCount(seen) < colours) {
                    return false;
                }
            }
            return true;
        }

        boolean isAssociative() {
            for (int a = 0; a < colours; a++) {
                for (int b = 0; b < colours; b++) {
                    for (int c = 0; c < colours; c++) {
                        if (childOf(childOf(a, b), c) != childOf(a, childOf(b, c))) {
                            return false;
                        }
                    }
                }
            }
            return true;
        }

        boolean keepsAlike() {
            for (int a = 0; a < colours; a++) {
                if (childOf(a, a) != a) {
                    return false;
                }
            }
            return true;
        }

        boolean hasNeutral() {
            for (int e = 0; e < colours; e++) {
                boolean neutral = true;
                for (int b = 0; b < colours; b++) {
                    neutral = neutral && childOf(e, b) == b && childOf(b, e) == b;
                }
                if (neutral) {
                    return true;
                }
            }
            return false;
        }

        /** Each round but the last adds a colour, so as many rounds as colours are enough. */
        int closureOf(int set) {
            int closed = set;
            for (int round = 0; round < colours; round++) {
                for (int left = 0; left < colours; left++) {
                    for (int right = 0; right < colours; right++) {
                        if (hasColour(closed, left) && hasColour(closed, right)) {
                            closed |= 1 << childOf(left, right);
                        }
                    }
                }
            }
            return closed;
        }

        private static boolean hasColour(int set, int colour) {
            return (set >>> colour & 1) != 0;
        }

        /** From the right end on: in how many ways parents go on from a seat, by the colour there. */
        int countParents(Family family, int row) {
            int length = family.lengthOf(row);
            for (int colour = 0; colour < colours; colour++) {
                parentWays[length * MOST_COLOURS + colour] = 1;
            }
            for (int seat = length - 1; seat >= 0; seat--) {
                for (int left = 0; left < colours; left++) {
                    int sum = 0;
                    for (int right = 0; right < colours; right++) {
                        if (childOf(left, right) == family.colourAt(row, seat)) {
                            sum += parentWays[(seat + 1) * MOST_COLOURS + right];
                        }
                    }
                    parentWays[seat * MOST_COLOURS + left] = sum;
                }
            }
            int all = 0;
            for (int colour = 0; colour < colours; colour++) {
                all += parentWays[colour];
            }
            return all;
        }

        /** The parents must have been counted, and there must be some. */
        int leastParents(Family family, int row) {
            int number = 0;
            int before = NONE;
            for (int seat = 0; seat <= family.lengthOf(row); seat++) {
                int chosen = NONE;
                for (int colour = 0; colour < colours && chosen == NONE; colour++) {
                    boolean fits = seat == 0 || childOf(before, colour) == family.colourAt(row, seat - 1);
                    if (fits && parentWays[seat * MOST_COLOURS + colour] > 0) {
                        chosen = colour;
                    }
                }
                number = number * colours + chosen;
                before = chosen;
            }
            return number;
        }

        /** Rows are sorted by the set of colours that the last of their parents can have. */
        int countOrphans(int n) {
            int sets = 1 << colours;
            for (int set = 0; set < sets; set++) {
                rowsBySet[set] = set == sets - 1 ? 1 : 0;
            }
            for (int i = 0; i < n; i++) {
                for (int set = 0; set < sets; set++) {
                    longerBySet[set] = 0;
                }
                for (int set = 0; set < sets; set++) {
                    for (int colour = 0; colour < colours; colour++) {
                        longerBySet[rightParents(set, colour)] += rowsBySet[set];
                    }
                }
                for (int set = 0; set < sets; set++) {
                    rowsBySet[set] = longerBySet[set];
                }
            }
            return rowsBySet[0];
        }

        private int rightParents(int lefts, int colour) {
            int rights = 0;
            for (int left = 0; left < colours; left++) {
                for (int right = 0; right < colours; right++) {
                    if (hasColour(lefts, left) && childOf(left, right) == colour) {
                        rights |= 1 << right;
                    }
                }
            }
            return rights;
        }

        private int ringStep(int packed, int length) {
            int next = 0;
            for (int seat = 0; seat < length; seat++) {
                int right = seat + 1 < length ? seat + 1 : 0;
                next = next * 4 + childOf(unpacked(packed, length, seat), unpacked(packed, length, right));
            }
            return next;
        }

        private int ringSteps(int packed, int length, int steps) {
            int next = packed;
            for (int i = 0; i < steps; i++) {
                next = ringStep(next, length);
            }
            return next;
        }

        /** Brent's way: a mark that is set anew behind 1, 2, 4, .. steps, until the row comes back to it. */
        void findRing(int packed, int length) {
            int mark = packed;
            int runner = ringStep(packed, length);
            int reach = 1;
            ringPeriod = 1;
            for (int i = 0; i < MOST_RING_STEPS && runner != mark; i++) {
                if (ringPeriod == reach) {
                    mark = runner;
                    reach *= 2;
                    ringPeriod = 0;
                }
                runner = ringStep(runner, length);
                ringPeriod++;
            }
            int behind = packed;
            int ahead = ringSteps(packed, length, ringPeriod);
            ringLead = 0;
            for (int i = 0; i < MOST_RING_STEPS && behind != ahead; i++) {
                behind = ringStep(behind, length);
                ahead = ringStep(ahead, length);
                ringLead++;
            }
        }

        int ringAfter(int packed, int length, int steps) {
            findRing(packed, length);
            boolean comesBack = steps > ringLead && ringPeriod > 0;
            int needed = comesBack ? ringLead + (steps - ringLead) % ringPeriod : steps;
            return ringSteps(packed, length, needed);
        }
    }

    /** All that goes on: the rows, the time, what was paid. */
    private static final class Family {
        int rows;
        int time;
        int paid;
        private final int[] lengths = new int[MOST_ROWS];
        private final int[] colours = new int[MOST_ROWS * MOST_SEATS];

        void clear() {
            rows = 0;
            time = 0;
            paid = 0;
            for (int row = 0; row < MOST_ROWS; row++) {
                lengths[row] = 0;
            }
        }

        void copyFrom(Family other) {
            rows = other.rows;
            time = other.time;
            paid = other.paid;
            System.arraycopy(other.lengths, 0, lengths, 0, MOST_ROWS);
            System.arraycopy(other.colours, 0, colours, 0, MOST_ROWS * MOST_SEATS);
        }

        int lengthOf(int row) {
            return lengths[row & 3];
        }

        void setLength(int row, int length) {
            lengths[row & 3] = length;
        }

        int colourAt(int row, int seat) {
            return colours[(row & 3) * MOST_SEATS + (seat & 7)];
        }

        void setColour(int row, int seat, int colour) {
            colours[(row & 3) * MOST_SEATS + (seat & 7)] = colour;
        }

        void append(int row, int colour) {
            if (lengthOf(row) < MOST_SEATS) {
                setColour(row, lengthOf(row), colour);
                setLength(row, lengthOf(row) + 1);
            }
        }

        int numberOf(int row, int base) {
            int number = 0;
            for (int seat = 0; seat < lengthOf(row); seat++) {
                number = number * base + colourAt(row, seat);
            }
            return number;
        }

        int packed(int row) {
            return numberOf(row, 4);
        }

        int amountOf(int row, int colour) {
            int amount = 0;
            for (int seat = 0; seat < lengthOf(row); seat++) {
                amount += colourAt(row, seat) == colour ? 1 : 0;
            }
            return amount;
        }

        int allLengths() {
            int sum = 0;
            for (int row = 0; row < rows; row++) {
                sum += lengthOf(row);
            }
            return sum;
        }

        int allColours() {
            int bits = 0;
            for (int row = 0; row < rows; row++) {
                for (int seat = 0; seat < lengthOf(row); seat++) {
                    bits |= 1 << colourAt(row, seat);
                }
            }
            return bits;
        }

        int singleRows() {
            int bits = 0;
            for (int row = 0; row < rows; row++) {
                bits |= lengthOf(row) == 1 ? 1 << row : 0;
            }
            return bits;
        }
    }

    /** The laws' values, for one that stands somewhere. */
    private static final class Laws {
        private static final int COLOUR = 0;
        private static final int SEAT = 1;
        private static final int DEPTH = 2;
        private static final int LONG = 3;
        private static final int MANY = 4;
        private static final int TIME = 5;
        private static final int WHICH = 6;
        private static final int LEFT = 7;
        private static final int RIGHT = 8;
        private static final int VARIABLE_COUNT = 9;

        private final int[] variables = new int[VARIABLE_COUNT];
        private int at;
        private boolean dividedByNought;

        /** One of a row and a colour, at depth 0 and seat 0 until more is said. */
        void standOn(Family family, int row, int colour) {
            variables[COLOUR] = colour;
            variables[LONG] = family.lengthOf(row);
            variables[MANY] = family.amountOf(row, colour);
            variables[TIME] = family.time;
            variables[WHICH] = row;
            standAt(0, 0);
            haveParents(0, 0);
        }

        void standAt(int depth, int seat) {
            variables[DEPTH] = depth;
            variables[SEAT] = seat;
        }

        void haveParents(int left, int right) {
            variables[LEFT] = left;
            variables[RIGHT] = right;
        }

        int held(Text text, int law, int most) {
            int start = text.lawStarts[law & 3];
            int value = start == NONE ? untold(law) : told(text.tokens, start);
            return Math.max(0, Math.min(most, value));
        }

        private int untold(int law) {
            switch (law) {
                case WORTH_LAW: return variables[COLOUR];
                case COSTS_LAW: return 1;
                case PAYS_LAW: return variables[LONG];
                default: return 0;
            }
        }

        private int told(Tokens tokens, int start) {
            at = start;
            dividedByNought = false;
            boolean holds = false;
            for (int i = 0; i < MOST_IFS && !holds && tokens.kind(at) == IF; i++) {
                at++;
                int one = expression(tokens, 0);
                at++;
                int other = expression(tokens, 0);
                at++;
                if (dividedByNought) {
                    return 0;
                }
                holds = one < other;
                if (!holds) {
                    passElse(tokens);
                }
            }
            int value = expression(tokens, 0);
            return dividedByNought ? 0 : value;
        }

        /** What stands between is not looked at: a division by 0 there is no matter. */
        private void passElse(Tokens tokens) {
            while (at < MOST_TOKENS && tokens.kind(at) != ELSE) {
                at++;
            }
            at++;
        }

        private int expression(Tokens tokens, int open) {
            int sum = 0;
            boolean minus = false;
            int part = unit(tokens, open);
            for (int i = 0; i < MOST_TOKENS && Text.isOperator(tokens.kind(at)); i++) {
                int operator = tokens.kind(at);
                at++;
                if (operator == '*') {
                    part *= unit(tokens, open);
                } else if (operator == '/') {
                    part = quotient(part, unit(tokens, open));
                } else {
                    sum = minus ? sum - part : sum + part;
                    minus = operator == '-';
                    part = unit(tokens, open);
                }
            }
            return minus ? sum - part : sum + part;
        }

        private int unit(Tokens tokens, int open) {
            int kind = tokens.kind(at);
            int value = (int) tokens.value(at);
            at++;
            if (kind == '(' && open < MOST_OPEN) {
                value = expression(tokens, open + 1);
                at++;
            } else if (Text.isVariable(kind)) {
                value = variables[kind - FIRST_VARIABLE];
            }
            return value;
        }

        private int quotient(int dividend, int divisor) {
            if (divisor == 0) {
                dividedByNought = true;
                return 0;
            }
            return dividend / divisor;
        }
    }

    /** A row with all its children, built up seat by seat from the left. */
    private static final class Triangle {
        int length;
        private final int[] cells = new int[MOST_SEATS * MOST_SEATS];
        /** How often each colour is in the triangle of the first 0, 1, .. seats. */
        private final int[] tallies = new int[(MOST_SEATS + 1) * MOST_COLOURS];

        void fill(Table table, Family family, int row) {
            length = 0;
            for (int seat = 0; seat < family.lengthOf(row); seat++) {
                put(table, seat, family.colourAt(row, seat));
                tallyEdge(seat);
            }
        }

        /**
         * A colour at a seat, behind which nothing stands then, and the children that it has, down to the left edge.
         * A child stands a line below its right parent and a seat further left; its left parent stands left of that one.
         */
        void put(Table table, int seat, int colour) {
            if (seat < 0 || seat >= MOST_SEATS) {
                return;
            }
            int born = colour & 3;
            int place = seat;
            cells[place] = born;
            for (int depth = 1; depth <= seat; depth++) {
                born = table.children[cells[place - 1] * MOST_COLOURS + born];
                place += MOST_SEATS - 1;
                cells[place] = born;
            }
            length = seat + 1;
        }

        /** Counts what the latest put has brought; the seats left of it must have been counted. */
        void tallyEdge(int seat) {
            if (seat < 0 || seat >= MOST_SEATS) {
                return;
            }
            int from = seat * MOST_COLOURS;
            for (int i = from; i < from + MOST_COLOURS; i++) {
                tallies[i + MOST_COLOURS] = tallies[i];
            }
            for (int depth = 0; depth <= seat; depth++) {
                tallies[from + MOST_COLOURS + cell(depth, seat - depth)]++;
            }
        }

        boolean has(int depth, int seat) {
            return depth >= 0 && depth < length && seat >= 0 && seat < length - depth;
        }

        int cell(int depth, int seat) {
            return cells[(depth & 7) * MOST_SEATS + (seat & 7)];
        }

        int tally(int seats, int colour) {
            return seats >= 0 && seats <= MOST_SEATS ? tallies[seats * MOST_COLOURS + (colour & 3)] : 0;
        }

        int leftSide(int depth) {
            return cell(depth, 0);
        }

        int rightSide(int depth) {
            return cell(depth, length - 1 - depth);
        }

        int lastChild() {
            return cell(length - 1, 0);
        }

        boolean isFair(int colours) {
            int least = tally(length, 0);
            int most = least;
            for (int colour = 1; colour < colours; colour++) {
                least = Math.min(least, tally(length, colour));
                most = Math.max(most, tally(length, colour));
            }
            return most - least <= 1;
        }

        boolean isTurned() {
            for (int seat = 0; seat < length; seat++) {
                int colour = cell(0, seat);
                if (colour != rightSide(seat) || colour != leftSide(length - 1 - seat)) {
                    return false;
                }
            }
            return true;
        }
    }

    /** What was, to be undone, and what is held in slots. */
    private static final class Memory {
        int undoable;
        private int newest;
        private final Family[] past = new Family[MOST_UNDONE];
        private final Family[] slots = new Family[SLOTS];
        private final boolean[] isHeld = new boolean[SLOTS];

        Memory() {
            for (int i = 0; i < MOST_UNDONE; i++) {
                past[i] = new Family();
            }
            for (int i = 0; i < SLOTS; i++) {
                slots[i] = new Family();
            }
        }

        /** A ring of 40: the newest takes the oldest one's place. */
        void remember(Family family) {
            newest = newest + 1 < MOST_UNDONE ? newest + 1 : 0;
            past[newest].copyFrom(family);
            undoable = Math.min(undoable + 1, MOST_UNDONE);
        }

        boolean recall(Family family) {
            if (undoable == 0) {
                return false;
            }
            family.copyFrom(past[newest]);
            newest = newest > 0 ? newest - 1 : MOST_UNDONE - 1;
            undoable--;
            return true;
        }

        void clearUndone() {
            undoable = 0;
        }

        void clearSlots() {
            for (int i = 0; i < SLOTS; i++) {
                isHeld[i] = false;
            }
        }

        boolean keep(int slot, Family family) {
            if (slot < 0 || slot >= SLOTS) {
                return false;
            }
            slots[slot].copyFrom(family);
            isHeld[slot] = true;
            return true;
        }

        boolean bringBack(int slot, Family family) {
            if (slot < 0 || slot >= SLOTS || !isHeld[slot]) {
                return false;
            }
            family.copyFrom(slots[slot]);
            return true;
        }

        int slotsHeld() {
            int held = 0;
            for (int i = 0; i < SLOTS; i++) {
                held += isHeld[i] ? 1 : 0;
            }
            return held;
        }
    }

    /** All rows of a length, gone through once for each text: their last children, and who wins by them. */
    private static final class Census {
        private final Triangle triangle = new Triangle();
        private final boolean[] isTaken = new boolean[MOST_SEATS + 1];
        private final int[] made = new int[(MOST_SEATS + 1) * MOST_COLOURS];
        private final int[] least = new int[(MOST_SEATS + 1) * MOST_COLOURS];
        /** By the length and the colour that the first paints at first: the last colours that the first can force. */
        private final int[] forced = new int[(MOST_SEATS + 1) * MOST_COLOURS];

        void clear() {
            for (int length = 0; length <= MOST_SEATS; length++) {
                isTaken[length] = false;
            }
        }

        void take(Table table, int length) {
            if (length < 1 || length > MOST_SEATS || isTaken[length]) {
                return;
            }
            for (int colour = 0; colour < MOST_COLOURS; colour++) {
                made[length * MOST_COLOURS + colour] = 0;
                least[length * MOST_COLOURS + colour] = NEVER;
                forced[length * MOST_COLOURS + colour] = 0;
            }
            goThrough(this, table, length, 0, 0);
            isTaken[length] = true;
        }

        /** Answers the set of last colours that the first can force from here on; rows come by rising number. */
        private static int goThrough(Census census, Table table, int length, int seat, int number) {
            if (seat >= length) {
                return census.noteRow(length, number);
            }
            boolean firstsTurn = seat % 2 == 0;
            int force = firstsTurn ? 0 : (1 << MOST_COLOURS) - 1;
            for (int colour = 0; colour < table.colours; colour++) {
                census.triangle.put(table, seat, colour);
                int below = goThrough(census, table, length, seat + 1, number * table.colours + colour);
                force = firstsTurn ? force | below : force & below;
                if (seat == 0) {
                    census.forced[length * MOST_COLOURS + colour] = below;
                }
            }
            return force;
        }

        private int noteRow(int length, int number) {
            int last = triangle.lastChild();
            int index = length * MOST_COLOURS + last;
            made[index]++;
            if (least[index] == NEVER) {
                least[index] = number;
            }
            return 1 << last;
        }

        int madeOf(int length, int colour) {
            return made[length * MOST_COLOURS + colour];
        }

        int leastOf(int length, int colour) {
            return least[length * MOST_COLOURS + colour];
        }

        int winningStart(int length, int wanted, int colours) {
            for (int colour = 0; colour < colours; colour++) {
                if ((forced[length * MOST_COLOURS + colour] >>> wanted & 1) != 0) {
                    return colour;
                }
            }
            return NEVER;
        }
    }

    /** The cheapest other row that has what is wanted. */
    private static final class Repainting {
        private static final int FAIRNESS = -1;

        private final Triangle triangle = new Triangle();
        private final int[] prices = new int[MOST_SEATS * MOST_COLOURS];
        private int length;
        private int wanted;
        private int mostOfOne;
        private int best;
        private int bestNumber;

        void setPrice(int seat, int colour, int price) {
            prices[(seat & 7) * MOST_COLOURS + (colour & 3)] = price;
        }

        void towardsLast(Table table, int rowLength, int colour) {
            wanted = colour;
            search(table, rowLength);
        }

        /** No colour of a fair triangle has more than its share, rounded up. */
        void towardsFair(Table table, int rowLength) {
            int all = rowLength * (rowLength + 1) / 2;
            wanted = FAIRNESS;
            mostOfOne = table.colours > 0 ? (all + table.colours - 1) / table.colours : all;
            search(table, rowLength);
        }

        int answer(int what) {
            if (bestNumber == NEVER) {
                return NEVER;
            }
            return what == 0 ? best : bestNumber;
        }

        private void search(Table table, int rowLength) {
            length = Math.min(rowLength, MOST_SEATS);
            best = ENDLESS;
            bestNumber = NEVER;
            goThrough(this, table, 0, 0, 0);
        }

        /** Rows come by rising number, so one as dear as the best so far is no better. */
        private static void goThrough(Repainting search, Table table, int seat, int price, int number) {
            if (price >= search.best) {
                return;
            }
            if (seat >= search.length) {
                search.noteRow(table, price, number);
                return;
            }
            for (int colour = 0; colour < table.colours; colour++) {
                search.triangle.put(table, seat, colour);
                if (search.canStillBe(seat, table.colours)) {
                    int dearer = price + search.prices[seat * MOST_COLOURS + colour];
                    goThrough(search, table, seat + 1, dearer, number * table.colours + colour);
                }
            }
        }

        private boolean canStillBe(int seat, int colours) {
            if (wanted != FAIRNESS) {
                return true;
            }
            triangle.tallyEdge(seat);
            for (int colour = 0; colour < colours; colour++) {
                if (triangle.tally(seat + 1, colour) > mostOfOne) {
                    return false;
                }
            }
            return true;
        }

        private void noteRow(Table table, int price, int number) {
            boolean reached = wanted == FAIRNESS ? triangle.isFair(table.colours) : triangle.lastChild() == wanted;
            if (reached) {
                best = price;
                bestNumber = number;
            }
        }
    }

    /** What was told of an unknown row, and the rows that fit it. */
    private static final class Told {
        int size;
        int fits;
        int leastFit;
        private final int[] depths = new int[MOST_TOLD];
        private final int[] seats = new int[MOST_TOLD];
        private final int[] colours = new int[MOST_TOLD];
        private final boolean[] isSo = new boolean[MOST_TOLD];
        private final Triangle triangle = new Triangle();
        /** How many of the rows that fit have a colour at a depth and seat. */
        private final int[] fitsBy = new int[TOLD_SIDE * TOLD_SIDE * MOST_COLOURS];

        void append(int depth, int seat, int colour, boolean so) {
            if (size < MOST_TOLD) {
                depths[size] = depth;
                seats[size] = seat;
                colours[size] = colour;
                isSo[size] = so;
                size++;
            }
        }

        void findFits(Table table, int known, int length) {
            fits = 0;
            leastFit = NEVER;
            for (int i = 0; i < fitsBy.length; i++) {
                fitsBy[i] = 0;
            }
            goThrough(this, table, Math.min(known, size), Math.min(length, TOLD_SIDE), 0, 0);
        }

        private static void goThrough(Told told, Table table, int known, int length, int seat, int number) {
            if (seat >= length) {
                if (told.isFit(known)) {
                    told.noteRow(number);
                }
                return;
            }
            for (int colour = 0; colour < table.colours; colour++) {
                told.triangle.put(table, seat, colour);
                goThrough(told, table, known, length, seat + 1, number * table.colours + colour);
            }
        }

        /** What is not in the triangle is neither so nor not so. */
        private boolean isFit(int known) {
            for (int i = 0; i < known; i++) {
                if (!triangle.has(depths[i], seats[i])) {
                    return false;
                }
                if ((triangle.cell(depths[i], seats[i]) == colours[i]) != isSo[i]) {
                    return false;
                }
            }
            return true;
        }

        private void noteRow(int number) {
            if (fits == 0) {
                leastFit = number;
            }
            fits++;
            for (int depth = 0; depth < triangle.length; depth++) {
                for (int seat = 0; seat < triangle.length - depth; seat++) {
                    fitsBy[cellIndex(depth, seat) + triangle.cell(depth, seat)]++;
                }
            }
        }

        private static int cellIndex(int depth, int seat) {
            return (depth * TOLD_SIDE + seat) * MOST_COLOURS;
        }

        /** The fits must have been found. */
        int bestLook(int length) {
            int best = NONE;
            int fewest = ENDLESS;
            for (int depth = 0; depth < length; depth++) {
                for (int seat = 0; seat < length - depth; seat++) {
                    int left = mostLeft(depth, seat);
                    if (left < fewest) {
                        fewest = left;
                        best = 10 * depth + seat;
                    }
                }
            }
            return best;
        }

        private int mostLeft(int depth, int seat) {
            int most = 0;
            for (int colour = 0; colour < MOST_COLOURS; colour++) {
                most = Math.max(most, fitsBy[cellIndex(depth, seat) + colour]);
            }
            return most;
        }
    }
}
