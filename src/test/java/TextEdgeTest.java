/** The boundary cases of texts: the terms of the document, and promises 1 to 5. */
public final class TextEdgeTest extends Edges {
    /** Tells of three tokens each: 133 of them are 399 tokens. */
    private static final String SEEDS_396 = "seed 1;".repeat(132);
    private static final String SEEDS_399 = "seed 1;".repeat(133);
    private static final String TOKENS_400 = SEEDS_396 + "row a 0;";
    private static final String TWENTY = "child 0 0 0;".repeat(20);
    private static final String FOUR_ROWS = "row a 0; row b 0; row c 0; row d 0; ";
    private static final String EIGHT = "row a 0 0 0 0 0 0 0 0 ";
    private static final String FOUR_IFS = "if 1 < 2 then 3 else ".repeat(4);

    public static void main(String[] args) {
        TextEdgeTest test = new TextEdgeTest();
        test.newObject();
        test.feed();
        test.back();
        test.read();
        test.place();
        test.tokens();
        test.everyByte();
        test.words();
        test.tells();
        test.lawSyntax();
        test.colours();
        test.children();
        test.rows();
        test.untold();
        test.seed();
        test.orderOfFaults();
        test.syntax();
        test.roomOfTokens();
        test.roomOfTells();
        test.roomOfLaws();
        test.faultsOfSenseAreLater();
        test.twice();
        test.wrong();
        test.unknownColours();
        test.faultChangesNothing();
        test.inPlaceOfTheOneAhead();
        test.check.end();
    }

    // ---- promises 1 to 5

    private void newObject() {
        says("promise 1", "COLOURS 2, no ROWS");
        due("COLOURS", 2, new RowChildren().count(0));
        due("ROWS", 0, new RowChildren().count(1));
        due("row 0", NONE, new RowChildren().row(0, 0));
        due("matters 0", NONE, new RowChildren().matters(0));
        due("colour 1", 0, new RowChildren().child(1, 1));
        due("colour 2", NONE, new RowChildren().child(2, 0));
        due("times without ROWS", 20, new RowChildren().times(20));
        due("paid without ROWS", 0, new RowChildren().paidIn(20));
        for (int what = 1; what <= 13; what++) {
            due("count " + what, 0, new RowChildren().count(what));
        }
        RowChildren told = new RowChildren();
        told.read();
        alike("as if an empty text were told", told, new RowChildren());
    }

    private static int feedBlanks(RowChildren x) {
        return x.feed(0x20202020, 0x20202020, 0x20202020, 0x20202020, 0x20202020);
    }

    /** A tape of so many bytes: blanks. */
    private static RowChildren tapeOf(int bytes) {
        RowChildren x = new RowChildren();
        for (int i = 0; i < bytes; i += 20) {
            feedBlanks(x);
        }
        x.back((20 - bytes % 20) % 20);
        return x;
    }

    private void feed() {
        says("promise 2", "Twenty bytes, the highest of a first, come behind the tape: how many it has");
        RowChildren x = new RowChildren();
        due("feed", 20, x.feed(0x726f7720, 0x61626364, 0x65666720, 0x31203020, 0x3120313b));
        due("feed behind it", 40, x.feed(0x726f7720, 0x62203020, 0x303b2020, 0x20202020, 0x20202020));
        due("read 'row abcdefg 1 0 1 1;row b 0 0;'", 0, x.read());
        due("the first ROW", 11, x.row(0, 1));
        due("the second ROW", 2, x.row(1, 0));
        due("bytes 255", 20, x.feed(-1, -1, -1, -1, -1));
        due("read of bytes 255", 1, x.read());
        says("promise 2", "NONE, and nothing comes, if it would have more than 2,000");
        due("the 2,000th byte", 2000, feedBlanks(tapeOf(1980)));
        for (int bytes : new int[] {1981, 1990, 1999, 2000}) {
            RowChildren full = tapeOf(bytes);
            due("behind " + bytes, NONE, full.feed(0x3f3f3f3f, 0x3f3f3f3f, 0x3f3f3f3f, 0x3f3f3f3f, 0x3f3f3f3f));
            due("as many as before", bytes, full.count(8));
            due("read of blanks alone", 0, full.read());
        }
        says("Terms", "A TEXT has 2,000 bytes at most");
        noFault(" ".repeat(1992) + "row a 0;");
        faultAt(1, " ".repeat(1992) + "row a 0 ", "");
        faultAt(1, " ".repeat(1999), "?");
    }

    private void back() {
        says("promise 3", "The last n bytes of the tape go: how many it has");
        RowChildren x = new RowChildren();
        Check.feed(x, "row a 0 1;???");
        due("three", 10, x.back(3));
        due("none", 10, x.back(0));
        due("read of what is left", 0, x.read());
        due("LONG", 2, x.row(0, 0));
        due("all of 2,000", 0, tapeOf(2000).back(2000));
        due("none of none", 0, new RowChildren().back(0));
        says("promise 3", "NONE, and nothing goes, if it has not so many, or n is below 0");
        due("1 of none", NONE, new RowChildren().back(1));
        for (int n : new int[] {-1, LOWEST, HIGHEST, 12, 2001}) {
            due("back " + n, NONE, busy().back(n));
            leavesAll("back " + n, y -> y.back(n));
        }
        due("2,001 of 2,000", NONE, tapeOf(2000).back(2001));
        RowChildren read = tapeOf(40);
        read.read();
        due("what was read", NONE, read.back(1));
    }

    private void read() {
        says("promise 4", "The tape, which is empty then, is read: 0, or the number of its FAULT");
        noFault("");
        noFault(" ".repeat(2000));
        faultAt(1, "row a", "");
        RowChildren x = new RowChildren();
        due("a fault", 1, Check.read(x, "row a"));
        due("bytes behind it", 0, x.count(8));
        due("the rest alone", 1, Check.read(x, " 0;"));
        due("place of the rest", 1, x.place());
        due("a text without", 0, Check.read(x, "row a 0;"));
        due("bytes behind it", 0, x.count(8));
        due("nothing is a text", 0, x.read());
        due("without ROWS", 0, x.count(1));
    }

    private void place() {
        says("promise 5", "The byte of the latest read()'s FAULT; NONE without");
        RowChildren x = new RowChildren();
        due("before any", NONE, x.place());
        Check.read(x, "?");
        due("byte 0", 0, x.place());
        Check.feed(x, "row");
        due("not of what is not read yet", 0, x.place());
        x.read();
        due("the text's end", 3, x.place());
        due("once more", 3, x.place());
        x.read();
        due("without", NONE, x.place());
        leavesAll("place", RowChildren::place);
    }

    // ---- tokens

    private void tokens() {
        says("Terms", "TOKENS, the longest that can be, with blanks (9, 10, 13, 32) between or not");
        noFault("colours3;child0 1 2;row a0 1;worth=colour*seat/(long+1)-2;seed5;odds=if seat<1then 2else 3;");
        noFault("\t\n\r row\t\n\r a\t\n\r 0\t\n\r ;\t\n\r ");
        faultAt(1, "", "rowa 0;");
        faultAt(1, "row a 0;", "seeds 1;");
        faultAt(1, "", "col ours 2;");
        faultAt(5, "row a ", "12;");
        says("Terms", "NAMES (letters a .. z, 8 at most");
        noFault("row abcdefgh 0;");
        noFault("row zzzzzzzz 0;");
        noFault("row a 0;");
        faultAt(1, "row ", "abcdefghi 0;");
        faultAt(1, "row ", "zzzzzzzzz 0;");
        faultAt(1, "row ", "a".repeat(1990) + " 0;");
        says("Terms", "INTS (1 to 4 digits)");
        noFault("seed 0;");
        noFault("seed 0000;");
        noFault("seed 9999;");
        noFault("worth = 9999;");
        faultAt(1, "seed ", "00000;");
        faultAt(1, "seed ", "10000;");
        faultAt(1, "worth = ", "10000;");
        faultAt(1, "seed ", "1".repeat(1990) + ";");
        says("Terms", "A longer one, all else, is no TOKEN");
        faultAt(1, "", "colourscolours 2;");
        faultAt(1, "", "abcdefghi");
        faultAt(1, "row a ", "00001;");
        faultAt(1, "row a 1", ".0;");
        faultAt(1, "row a 1", ", 0;");
        faultAt(1, "row a", "_b 0;");
    }

    private static boolean isBlank(int sign) {
        return sign == 9 || sign == 10 || sign == 13 || sign == 32;
    }

    private static boolean isLetter(int sign) {
        return sign >= 97 && sign <= 122;
    }

    private static boolean isDigit(int sign) {
        return sign >= 48 && sign <= 57;
    }

    /** Each of the 256 bytes where a blank may be, where a name must be, and where an operator may be. */
    private void everyByte() {
        says("Terms", "SIGNS ; = + - * / < ( )");
        for (int sign = 0; sign < 256; sign++) {
            String it = String.valueOf((char) sign);
            if (isBlank(sign) || isDigit(sign)) {
                noFault("seed" + it + "1;");
            } else {
                fault("seed" + it + "1;", 1, isLetter(sign) ? 0 : 4);
            }
            if (isLetter(sign)) {
                noFault("row " + it + " 1;");
            } else {
                fault("row " + it + " 1;", 1, isBlank(sign) ? 6 : 4);
            }
            if (sign == '+' || sign == '-' || sign == '*' || sign == '/' || isDigit(sign)) {
                noFault("worth = 1" + it + "1;");
            } else {
                fault("worth = 1" + it + "1;", 1, isBlank(sign) || sign == ';' ? 10 : 9);
            }
        }
    }

    private void words() {
        says("Terms", "none of the words in quotes");
        due("words", 20, Model.WORDS.size());
        for (String word : Model.WORDS) {
            faultAt(1, "row ", word + " 0;");
            String shorter = word.substring(0, word.length() - 1);
            for (String near : new String[] {shorter, shorter + "z", "z" + word.substring(1), word + "z", "z" + word}) {
                if (!Model.WORDS.contains(near) && near.length() <= 8) {
                    noFault("row " + near + " 0;");
                }
            }
        }
    }

    private void tells() {
        says("Terms", "text: {TELL}.");
        noFault("");
        for (String none : new String[] {";", "a", "1", "=", "(", "if", "colour", "else"}) {
            faultAt(1, "", none);
            faultAt(1, "row a 0; ", none);
        }
        says("Terms", "'row' NAME INT {INT} ';'");
        faultAt(1, "row", ";");
        faultAt(1, "row ", "0;");
        faultAt(1, "row a", ";");
        faultAt(1, "row a ", "b 0;");
        faultAt(1, "row a 0", "");
        says("Terms", "'child' INT INT INT ';'");
        faultAt(1, "child", ";");
        faultAt(1, "child 0 0", ";");
        faultAt(1, "child 0 0 0 ", "0;");
        faultAt(1, "child 0 0 0", "");
        says("Terms", "'colours' INT ';'");
        faultAt(1, "colours", ";");
        faultAt(1, "colours 2 ", "2;");
        faultAt(1, "colours 2", "");
        says("Terms", "'seed' INT ';'");
        faultAt(1, "seed", ";");
        faultAt(1, "seed 1 ", "1;");
        faultAt(1, "seed 1", "");
    }

    private void lawSyntax() {
        says("Terms", "LAW: '=' {'if' E '<' E 'then' E 'else'} E.");
        for (String law : new String[] {"worth", "costs", "odds", "pays"}) {
            faultAt(1, law + " ", "1;");
            faultAt(1, law + " =", ";");
            faultAt(1, law + " = ", "= 1;");
            faultAt(1, law + " = 1", "");
            faultAt(1, law + " = if ", "< 2 then 3 else 4;");
            faultAt(1, law + " = if 1 ", "then 3 else 4;");
            faultAt(1, law + " = if 1 < 2 ", "< 3 then 3 else 4;");
            faultAt(1, law + " = if 1 < 2 ", "else 4;");
            faultAt(1, law + " = if 1 < 2 then 3", ";");
            faultAt(1, law + " = if 1 < 2 then 3 else", ";");
            faultAt(1, law + " = 1 ", "if 1 < 2 then 3 else 4;");
            faultAt(1, law + " = if 1 < 2 then ", "if 1 < 2 then 3 else 4 else 5;");
            noFault(law + " = if 1 < 2 then 3 else 4;");
        }
        says("Terms", "UNIT: INT | VAR | '(' E ')'.");
        for (String variable : Model.VARIABLES) {
            noFault("pays = " + variable + ";");
            noFault("pays = (" + variable + " + 1) * " + variable + ";");
        }
        faultAt(1, "pays = (", ");");
        faultAt(1, "pays = (1", ";");
        faultAt(1, "pays = 1", ");");
        faultAt(1, "pays = 1 +", ";");
        faultAt(1, "pays = ", "+ 1;");
        faultAt(1, "pays = ", "- 1;");
        faultAt(1, "pays = 1 + ", "- 1;");
        faultAt(1, "pays = 1 ", "1;");
        faultAt(1, "pays = (1) ", "(1);");
        faultAt(1, "pays = ", "x;");
        faultAt(1, "pays = ", "seed;");
        faultAt(1, "pays = (1 ", "< 2);");
    }

    // ---- what a text tells

    private void colours() {
        says("Terms", "COLOURS 2 .. 4 (2; the last one)");
        due("not told", 2, Check.of("seed 1;").count(0));
        for (int colours = 2; colours <= 4; colours++) {
            due("told", colours, Check.of("colours " + colours + ";").count(0));
        }
        due("the last one", 3, Check.of("colours 4; colours 2; colours 3;").count(0));
        due("the last one, behind a ROW", 4, Check.of("colours 2; row a 3; colours 4;").count(0));
        noFault("colours 0004;");
        for (String wrong : new String[] {"0", "1", "5", "12", "9999", "0001"}) {
            faultAt(5, "colours ", wrong + ";");
            faultAt(5, "colours ", wrong + "; colours 4;");
            faultAt(5, "colours 4; colours ", wrong + ";");
        }
    }

    private void children() {
        says("Terms", "the last one told of both; else both, added, by COLOURS, its rest");
        for (int colours = 2; colours <= 4; colours++) {
            RowChildren x = Check.of("colours " + colours + ";");
            for (int left = 0; left < colours; left++) {
                for (int right = 0; right < colours; right++) {
                    due("not told " + left + " " + right, (left + right) % colours, x.child(left, right));
                }
            }
        }
        RowChildren y = Check.of("child 0 1 0; child 1 0 1; child 0 1 1; child 0 1 0; colours 3;");
        due("the last one of 0 1", 0, y.child(0, 1));
        due("of 1 0", 1, y.child(1, 0));
        due("by the COLOURS that are told behind", 2, y.child(1, 1));
        says("Terms", "0 .. 3 each");
        noFault("colours 4; child 3 3 3; child 0 0 0;");
        faultAt(5, "colours 4; child ", "4 3 3;");
        faultAt(5, "colours 4; child 3 ", "4 3;");
        faultAt(5, "colours 4; child 3 3 ", "4;");
        faultAt(5, "colours 4; child 3 3 ", "9999;");
    }

    private void rows() {
        says("Terms", "ROWS, 4 at most (a NAME, colours 0 .. 3 from the left, 8 at most), numbered from 0 on as they stand");
        RowChildren x = Check.of("row z 1 0 0 0 0 0 0 1; row y 0; row x 1; row a 1 0;");
        int[] numbers = {129, 0, 1, 2};
        for (int row = 0; row < 4; row++) {
            due("row " + row, numbers[row], x.row(row, 1));
        }
        due("ROWS", 4, x.count(1));
        due("LONG", 8, x.row(0, 0));
        noFault("colours 4; row a 3 3 3 3 3 3 3 3;");
        faultAt(5, "colours 4; row a 3 3 3 3 3 3 3 ", "4;");
        faultAt(5, "colours 4; row a ", "4;");
    }

    private static int numberBehind(String text) {
        RowChildren x = Check.of(text);
        x.times(1);
        return x.row(0, 1);
    }

    private void untold() {
        says("Terms", "LAWS: WORTH (colour), COSTS (1), ODDS (0), PAYS (long), if not told; the last one");
        RowChildren x = Check.of("colours 4; row a 3 2 0;");
        due("WORTH", 3, x.worth(0, 0, 0));
        due("WORTH", 0, x.worth(0, 0, 2));
        due("COSTS", 1, x.costs(0, 2, 3));
        due("PAYS", 3, x.row(0, 3));
        for (int seed = 0; seed < 200; seed++) {
            due("ODDS by seed " + seed, 0, numberBehind("row a 0 0 0 0 0 0 0 0; seed " + seed + ";"));
        }
        RowChildren last = Check.of("worth = 1; costs = 2; odds = 0; pays = 4; row a 0 0; pays = 8; odds = 100; costs = 6;"
                + "worth = 5;");
        due("the last WORTH", 5, last.worth(0, 0, 0));
        due("the last COSTS", 6, last.costs(0, 0, 1));
        due("the last PAYS", 8, last.row(0, 3));
        due("the last ODDS", 1, last.then(0, 1, 0));
    }

    private void seed() {
        says("Terms", "SEED 0 .. 9999 (0): the last one");
        String odds = "row a 0 0; odds = 36;";
        due("LOT 100 of 0 and 0", 77, Model.lot(100, 0, 0));
        due("LOT 100 of 1 and 0", 35, Model.lot(100, 1, 0));
        due("not told", 0, numberBehind(odds));
        due("0", 0, numberBehind(odds + "seed 0;"));
        due("1", 1, numberBehind(odds + "seed 1;"));
        due("the last one", 1, numberBehind(odds + "seed 0; seed 1;"));
        due("the last one", 0, numberBehind(odds + "seed 1; seed 0000;"));
        due("LOT 100 of 9999 and 0", 84, Model.lot(100, 9999, 0));
        due("9999", 1, numberBehind("row a 0 0; odds = 85; seed 9999;"));
        due("9999", 0, numberBehind("row a 0 0; odds = 84; seed 9999;"));
    }

    // ---- faults

    private void orderOfFaults() {
        says("Terms", "FAULTS of a text, the first by its place (a byte; the text's end: its length)");
        faultAt(1, "row a 0 ", "? ?");
        faultAt(2, EIGHT, "0 ?");
        faultAt(1, "row a 0 ", "? 0 0 0 0 0 0 0 0");
        faultAt(2, TWENTY, "child; row a");
        faultAt(1, "   ", "?");
        faultAt(1, "row", "");
        faultAt(1, "row a 0 \n ", "");
        says("Terms", "of one place the least");
        faultAt(1, SEEDS_399 + "row ", "0");
        faultAt(1, TOKENS_400, ";");
        faultAt(1, TOKENS_400, "$");
        faultAt(1, TOKENS_400, "abcdefghi");
        faultAt(2, TOKENS_400 + "\n", "seed 1;");
    }

    private void syntax() {
        says("Terms", "1 SYNTAX: a TOKEN, or what is none, with which no text goes on");
        faultAt(1, "row a 0 ", "then");
        faultAt(1, "row a 0 ", "$");
        faultAt(1, "row a 0 ", "abcdefghi");
        faultAt(1, "row a 0 ", "12345");
        faultAt(1, "worth = 1; row", "");
        faultAt(1, "worth = if 1 < 2 then 3 else 4 ", "else 5;");
        faultAt(1, "worth = (", "if 1 < 2 then 3 else 4);");
    }

    private void roomOfTokens() {
        says("Terms", "2 ROOM: a 401st TOKEN");
        noFault(TOKENS_400);
        noFault(TOKENS_400 + " \n ");
        faultAt(2, TOKENS_400, "seed 1;");
        faultAt(2, SEEDS_399 + "row ", "a 0;");
        faultAt(2, SEEDS_396 + "row a 0 0", ";");
        faultAt(1, SEEDS_399 + "row", "");
        faultAt(1, SEEDS_396 + "row a 0", "");
        String sum = "worth = 1" + "+1".repeat(198);
        noFault(sum + ";");
        faultAt(2, sum + "+", "1;");
        faultAt(1, sum + "+", ";");
        faultAt(1, sum + "+", "");
        String bracket = "worth = (1" + "+1".repeat(197);
        noFault(bracket + ");");
        faultAt(2, bracket + "+1", ");");
        faultAt(2, "seed 1;".repeat(131) + "worth = if 1 < 2 then ", "3 else 4;");
        faultAt(2, TOKENS_400, "seed 1;".repeat(100));
    }

    private void roomOfTells() {
        says("Terms", "one more of a sort than told (at its first TOKEN; a 9th colour of a ROW, at it)");
        noFault(TWENTY);
        faultAt(2, TWENTY, "child 0 0 0;");
        faultAt(2, TWENTY + " ", "child");
        faultAt(2, TWENTY + " ", "child ?");
        faultAt(2, "child 0 1 1;".repeat(19) + FOUR_ROWS + "child 1 1 1; seed 3; ", "child 0 0 0;");
        noFault(FOUR_ROWS);
        faultAt(2, FOUR_ROWS, "row e 0;");
        faultAt(2, FOUR_ROWS, "row a 0;");
        faultAt(2, FOUR_ROWS + "colours 3; ", "row");
        noFault(EIGHT + ";");
        noFault(EIGHT + "; row b 0 0 0 0 0 0 0 0;");
        faultAt(2, EIGHT, "0;");
        faultAt(2, EIGHT, "0 0 0");
        faultAt(2, EIGHT, "9;");
        faultAt(2, EIGHT + "; row b 0 0 0 0 0 0 0 0 ", "0;");
        faultAt(1, EIGHT, "x;");
        faultAt(1, EIGHT, "00000;");
        noFault("colours 3;".repeat(100));
        noFault("seed 3;".repeat(100));
        noFault("worth=1;costs=1;odds=1;pays=1;".repeat(25));
    }

    private void roomOfLaws() {
        says("Terms", "a 5th if of a LAW (at it)");
        noFault("worth = " + FOUR_IFS + "1;");
        noFault("worth = " + FOUR_IFS + "1; costs = " + FOUR_IFS + "1; worth = " + FOUR_IFS + "1;");
        faultAt(2, "worth = " + FOUR_IFS, "if 1 < 2 then 3 else 4;");
        faultAt(2, "worth = " + FOUR_IFS, "if");
        faultAt(2, "pays = 1; worth = " + FOUR_IFS + "1; odds = " + FOUR_IFS, "if");
        faultAt(1, "worth = " + FOUR_IFS, "then");
        says("Terms", "a 7th ( within one another (at it)");
        noFault("worth = ((((((1))))));");
        noFault("worth = ((((((1)))))) + ((((((1)))))) * (1 + (1 + (1 + (1 + (1 + (1))))));");
        noFault("worth = if ((((((1)))))) < ((((((1)))))) then ((((((1)))))) else ((((((1))))));");
        faultAt(2, "worth = ((((((", "(1)))))));");
        faultAt(2, "worth = ((((((1 + ", "(1)))))));");
        faultAt(2, "worth = 1 + ((((((1)))))) + ((((((", "(");
        faultAt(2, "worth = if 1 < ((((((", "(");
        faultAt(1, "worth = ((((((1 ", "(");
    }

    private void faultsOfSenseAreLater() {
        says("Terms", "If there is none, likewise");
        for (String sense : new String[] {"row q 0; row q 0; ", "colours 9; ", "child 7 0 0; ", "child 2 0 0; "}) {
            faultAt(1, sense, "?");
            faultAt(1, sense + "row", "");
            faultAt(2, sense + "row w 0 0 0 0 0 0 0 0 ", "0;");
        }
        faultAt(2, "colours 9;" + SEEDS_396 + "row ", "a 0;");
    }

    private void twice() {
        says("Terms", "3 TWICE: a NAME told already");
        faultAt(3, "row a 0; row ", "a 1;");
        faultAt(3, "row a 0; row b 0; row c 0; row ", "a 1;");
        faultAt(3, "row a 0; row b 0; row ", "b 1; row a 1;");
        faultAt(3, "row aaaaaaaa 0; row aaaaaaab 0; row ", "aaaaaaab 0;");
        noFault("row aaaaaaaa 0; row aaaaaaab 0; row baaaaaaa 0; row aaaaaaa 0;");
        for (char letter = 'a'; letter <= 'z'; letter++) {
            String one = String.valueOf(letter);
            noFault("row " + one + " 0; row " + one.repeat(2) + " 0; row " + one.repeat(7) + " 0; row " + one.repeat(8) + " 0;");
        }
        noFault("row ab 0; row ba 0; row abz 0; row zba 0;");
        faultAt(3, "row a 0; row ", "a 9;");
        faultAt(5, "row a ", "9; row a 0;");
        faultAt(3, "row a 3; row ", "a 0;");
        RowChildren x = Check.of("row a 0;");
        due("a NAME of the text ahead is not told already", 0, Check.read(x, "row a 0;"));
    }

    private void wrong() {
        says("Terms", "5 WRONG (at the INT): a number not as told above");
        faultAt(5, "colours ", "1;");
        faultAt(5, "colours ", "5;");
        faultAt(5, "child ", "4 5 6;");
        faultAt(5, "child 0 ", "5 6;");
        faultAt(5, "child 0 0 ", "0004;");
        faultAt(5, "row a 0 0 ", "4 5;");
        faultAt(5, "row a 0 0 0 0 0 0 0 ", "4;");
        faultAt(5, "row a 3; colours ", "5;");
        noFault("seed 9999; worth = 9999 + 5; costs = if 4 < 5 then 99 else 0;");
    }

    private void unknownColours() {
        says("Terms",
                "6 COLOUR (at the text's end): a colour of a CHILD (left, right, its own) or of a ROW that is not below COLOURS");
        for (int colours = 2; colours <= 4; colours++) {
            String told = "colours " + colours + "; ";
            int highest = colours - 1;
            noFault(told + "child " + highest + " " + highest + " " + highest + "; row a " + highest + " " + highest + ";");
            if (colours < 4) {
                faultAt(6, told + "child " + colours + " 0 0;", "");
                faultAt(6, told + "child 0 " + colours + " 0;", "");
                faultAt(6, told + "child 0 0 " + colours + "; child 0 0 0;  ", "");
                faultAt(6, told + "row a 0 0 0 0 0 0 0 " + colours + ";\n", "");
                faultAt(6, "row a " + colours + "; colours 4; " + told, "");
                noFault("row a " + colours + "; " + told + "colours 4;");
            }
        }
        faultAt(6, "row a 2;", "");
        faultAt(6, "child 3 3 3;", "");
        faultAt(5, "row a 2; colours ", "5;");
        faultAt(3, "row a 2; row ", "a 2;");
    }

    private void faultChangesNothing() {
        says("Terms", "A text with a FAULT changes nothing but the tape");
        String anew = "colours 2; child 0 0 1; child 1 1 1; worth = 7; costs = 7; odds = 7; pays = 7; seed 7; row q 1 1 1;";
        String[] faulty = {anew + "?", anew + EIGHT + "0;", anew + "row q 0;", anew + "seed 1; colours 5;", anew + "row r 2;"};
        int[] numbers = {1, 2, 3, 5, 6};
        for (int i = 0; i < faulty.length; i++) {
            RowChildren one = busy();
            one.back(11);
            RowChildren other = busy();
            other.back(11);
            due("fault", numbers[i], Check.read(other, faulty[i]));
            due("the tape", 0, other.count(8));
            alike("a text with fault " + numbers[i] + " leaves all as it is", one, other);
        }
    }

    private static RowChildren busyThenTold(String... texts) {
        RowChildren x = busy();
        x.back(11);
        for (String text : texts) {
            if (Check.read(x, text) != 0) {
                throw new IllegalArgumentException("a test's text has a fault: " + text);
            }
        }
        return x;
    }

    private void inPlaceOfTheOneAhead() {
        says("Terms", "else it is in place of the one ahead");
        for (String text : new String[] {"", "row q 1 1 1;", "colours 4; row q 1 0 0; row r 3; seed 5; odds = 50;",
            "worth = 3; pays = 2; costs = 5; child 0 0 1; row z 0;"}) {
            alike("as if nothing had been told ahead of '" + text + "'", Check.of(text), busyThenTold(text));
            alike("as if nothing had been told two ahead of '" + text + "'", Check.of(text), busyThenTold("", text));
            alike("as if nothing had been told three ahead", Check.of(text), busyThenTold("row z 0 1;", "seed 3;", text));
        }
        String[] oddly = {"child 0 0 1;", "child 0 1 0;", "child 1 0 0;", "child 1 1 1;", "colours 4;", "odds = 100;", "seed 1;",
            "worth = 9;", "costs = 9;", "pays = 9;", "row a 1 1 1; row b 1; row c 0; row d 0;"};
        String plain = "row z 0 1 1; odds = 36;";
        for (String told : oddly) {
            RowChildren again = Check.of(told);
            Check.read(again, plain);
            alike("'" + told + "' is told no more", Check.of(plain), again);
            RowChildren later = Check.of(told);
            later.read();
            Check.read(later, plain);
            alike("'" + told + "' is told no more, two texts on", Check.of(plain), later);
        }
        RowChildren x = busyThenTold("row q 1 1 1;");
        says("Terms", "time 0, nothing paid");
        due("time", 0, x.count(2));
        due("paid", 0, x.count(3));
        says("Terms", "nothing can be undone, nothing is TOLD, SLOTS hold nothing");
        due("things that can be undone", 0, x.count(9));
        due("undo", false, x.undo());
        due("TOLD ones", 0, x.count(10));
        due("rows by 1", NONE, x.rows(1, 3, 0));
        due("the next TOLD one", 0, x.tell(0, 0, 0, true));
        due("SLOTS", 0, x.count(11));
        for (int slot = 0; slot < 3; slot++) {
            due("restore", false, x.restore(slot));
        }
    }
}
