/**
 * The boundary cases of THE TEXT and of what it tells (Terms 1, promises 1 to 4 and 21): each sentence of the document
 * has a test of its own, which quotes it.
 */
public final class TextBoundaryTest extends Checks {
    private static final String ROW = "row hbshbs;";
    private static final String MOST_CELLS = ROW + ROW + ROW + ROW;

    public static void main(String[] args) {
        wide();
        high();
        numberedRowByRow();
        walkers();
        walkerCells();
        everyNumberOfACell();
        sink();
        sinkAtFirst();
        sinkOnceAtMost();
        sinkWhereverTold();
        mostBytes();
        blanks();
        neededBlanks();
        noItems();
        eachEnded();
        rowsAheadOfWalkers();
        textWithoutRow();
        everyByteAtTheStart();
        everyByteBehindARow();
        everyByteBehindANumber();
        wordsBehindRow();
        wordsThatAreNone();
        numbersThatAreNone();
        faultOfTheFirst();
        endsTooEarly();
        faultNearest();
        newObject();
        typeBytes();
        typeHighestFirst();
        typeFull();
        typeBadAheadOfFull();
        clear();
        moorEmptiesTheText();
        moorTellsAll();
        faultLeavesAll();
        mostItems();
        countEdges();
        end("the text's boundaries hold");
    }

    private static String times(String part, int n) {
        return part.repeat(n);
    }

    /** "WIDE (1 .. 6)" */
    private static void wide() {
        MoorStones one = told("row s;", 1);
        due("WIDE", one.count(0), 1);
        dueAll("ground", ground(one), 2);
        due("no CELL beside the one", one.cell(1, 0), BAD);
        MoorStones six = told("row hbshbs;", 1);
        due("WIDE", six.count(0), 6);
        dueAll("ground", ground(six), 0, 1, 2, 0, 1, 2);
        due("no CELL beside the six", six.cell(6, 0), BAD);
        for (int wide = 2; wide <= 5; wide++) {
            due("WIDE", told("row " + times("b", wide) + ";", 1).count(0), wide);
        }
        fault("row ;", 4);
        fault("row hhhhhhh;", 4);
        fault("row " + times("h", 12) + ";", 4);
        fault("row " + times("h", 256 + 6) + ";", 4);
        fault("row " + times("s", 296), 4);
    }

    /** "by HIGH (1 .. 4) CELLS", "a fifth row" */
    private static void high() {
        for (int high = 1; high <= 4; high++) {
            MoorStones x = told(times("row bs;", high), high);
            due("HIGH", x.count(1), high);
            due("the last CELL", x.cell(2 * high - 1, 0), 2);
            due("none behind it", x.cell(2 * high, 0), BAD);
        }
        fault(times("row bs;", 5), 28);
        fault(times("row bs;", 4) + "row", 28);
        fault(times("row bs;", 4) + "sink 1;row bs;", 35);
        fault(times("row hhhhhh;", 27), 44);
    }

    /** "numbered row by row from the left (WIDE times row and column)" */
    private static void numberedRowByRow() {
        MoorStones x = told("row hbs;row bsh;row shb;row hhs;", 4);
        dueAll("ground", ground(x), 0, 1, 2, 1, 2, 0, 2, 0, 1, 0, 0, 2);
        MoorStones most = told(MOST_CELLS, 4);
        due("CELL 0", most.cell(0, 0), 0);
        due("CELL 22", most.cell(22, 0), 1);
        due("CELL 23", most.cell(23, 0), 2);
        due("CELL 24", most.cell(24, 0), BAD);
        due("CELL -1", most.cell(-1, 0), BAD);
    }

    /** "WALKERS 0 .. (4 at most)", "a fifth walker" */
    private static void walkers() {
        String row = "row hhh;";
        for (int n = 0; n <= 4; n++) {
            MoorStones x = told(row + times("walker 0 1;", n), 1 + n);
            due("WALKERS", x.count(2), n);
            due("no WALKER behind the last", x.walker(n, 0), BAD);
            due("the last one", x.walker(n - 1, 1), n == 0 ? BAD : 1);
        }
        fault(row + times("walker 0 1;", 5), 52);
        fault(row + times("walker 0 1;", 4) + "walker", 52);
        fault(row + times("walker 0 1;", 4) + "sink 1;walker 0 1;", 59);
    }

    /** "walker A B (CELLS that were told, not one and the same)", "a B that is A" */
    private static void walkerCells() {
        MoorStones x = told(MOST_CELLS + "walker 0 23;walker 23 0;walker 22 23;walker 1 0;", 8);
        due("from the least", x.walker(0, 0), 0);
        due("to the greatest", x.walker(0, 1), 23);
        due("from the greatest", x.walker(1, 0), 23);
        due("to the least", x.walker(1, 1), 0);
        fault(MOST_CELLS + "walker 24 0;", 51);
        fault(MOST_CELLS + "walker 0 24;", 53);
        fault(MOST_CELLS + "walker 23 24;", 54);
        fault(MOST_CELLS + "walker 23 23;", 54);
        fault(MOST_CELLS + "walker 0 0;", 53);
        fault(MOST_CELLS + "walker 24 24;", 51);
        fault("row h;walker 0 0;", 15);
        fault("row h;walker 0 1;", 15);
        fault("row h;walker 1 0;", 13);
        due("two CELLS are enough", told("row b;row b;walker 1 0;", 3).walker(0, 0), 1);
    }

    /** "CELLS that were told", "a NUMBER above 99", "a NUMBER beyond what it may be" */
    private static void everyNumberOfACell() {
        for (int number = 0; number <= 120; number++) {
            if (number < 12) {
                MoorStones x = told("row hhhhhh;row hhhhhh;walker " + (number == 5 ? "6 " : "5 ") + number + ";", 3);
                due("to", x.walker(0, 1), number);
            } else {
                fault("row hhhhhh;row hhhhhh;walker " + number + " 1;", 29);
                fault("row hhhhhh;row hhhhhh;walker 1 " + number + ";", 31);
            }
        }
    }

    /** "SINK (0 .. 9", "a NUMBER beyond what it may be" */
    private static void sink() {
        for (int sink = 0; sink <= 9; sink++) {
            MoorStones x = told("row s;sink " + sink + ";", 2);
            due("SINK", x.count(3), sink);
            due("bears", x.cell(0, 1), sink);
        }
        for (int sink = 10; sink <= 120; sink++) {
            fault("row s;sink " + sink + ";", 11);
        }
    }

    /** "0 at first: never" */
    private static void sinkAtFirst() {
        MoorStones x = told("row bsb;walker 1 0;walker 0 1;", 3);
        due("SINK", x.count(3), 0);
        due("bears", x.cell(1, 1), 0);
        MoorStones again = told("sink 7;", 1);
        due("SINK", again.count(3), 7);
        typeText(again, "row s;");
        due("moor", again.moor(), 1);
        due("SINK is 0 at first in each text", again.count(3), 0);
    }

    /** "sink N (once at most)", "sink told again" */
    private static void sinkOnceAtMost() {
        due("SINK", told("sink 9;", 1).count(3), 9);
        fault("sink 0;sink 0;", 7);
        fault("sink 9;sink 9;", 7);
        fault("sink 1;row h;sink 2;", 13);
        fault("sink 1;sink", 7);
    }

    /** "All STONES that are told bear SINK, wherever it is told." */
    private static void sinkWhereverTold() {
        dueAll("ahead", cells(told("sink 3;row shs;row bsb;walker 0 1;", 4), 1), 3, 0, 3, 0, 3, 0);
        dueAll("between", cells(told("row shs;sink 3;row bsb;walker 0 1;", 4), 1), 3, 0, 3, 0, 3, 0);
        dueAll("ahead of walkers", cells(told("row shs;row bsb;sink 3;walker 0 1;", 4), 1), 3, 0, 3, 0, 3, 0);
        dueAll("behind", cells(told("row shs;row bsb;walker 0 1;sink 3;", 4), 1), 3, 0, 3, 0, 3, 0);
        dueAll("between walkers", cells(told("row sh;walker 0 1;sink 9;walker 1 0;", 4), 1), 9, 0);
    }

    /** "They are a text (300 bytes at most)" */
    private static void mostBytes() {
        MoorStones x = told("row h;" + times(" ", 293) + " ", 1);
        due("WIDE", x.count(0), 1);
        told(times(" ", 294) + "row h;", 1);
        told(times(" ", 148) + "row s" + times(" ", 146) + ";", 1);
        MoorStones more = new MoorStones();
        typeText(more, times(" ", 295) + "row h");
        due("one above", more.type(';', 1), FULL);
        due("it ends too early", more.moor(), -310);
    }

    /** "blanks (32), any number, ahead of, between, behind TOKENS" */
    private static void blanks() {
        told("row hb;row bh;walker 0 3;sink 2;", 4);
        told(" row hb ; row bh ; walker 0 3 ; sink 2 ; ", 4);
        told("    row    hb    ;    row    bh    ;    walker    0    3    ;    sink    2    ;    ", 4);
        told(" ", 0);
        told(times(" ", 300), 0);
    }

    /** "needed only between two rows of letters, two NUMBERS" */
    private static void neededBlanks() {
        fault("rowhb;", 0);
        fault("rowh;", 0);
        fault("row hh;walker01;", 13);
        MoorStones x = told("row hhhhhh;row hhhhhh;sink3;walker1 0;walker10 11;", 5);
        due("SINK", x.count(3), 3);
        due("from", x.walker(0, 0), 1);
        due("to", x.walker(0, 1), 0);
        due("from", x.walker(1, 0), 10);
        due("to", x.walker(1, 1), 11);
        // without the blank 1 and 1 are 11
        fault("row hhhhhh;row hhhhhh;walker 11;", 31);
    }

    /** "ITEMS (none, too)" */
    private static void noItems() {
        MoorStones x = new MoorStones();
        due("no byte", x.moor(), 0);
        typeText(x, " ");
        due("a blank", x.moor(), 0);
        due("the text is empty then", x.count(4), 0);
        fault(";", 0);
        fault(" ;", 1);
        fault(";;", 0);
    }

    /** "each ended by ;" */
    private static void eachEnded() {
        fault("row h", 5);
        fault("row h row h;", 6);
        fault("row h;;", 6);
        fault("sink 1", 6);
        fault("sink 1 sink 2;", 7);
        fault("row hh;walker 0 1", 17);
        fault("row hh;walker 0 1 walker 1 0;", 18);
        fault("row hh;walker 0 1;row", 18);
        told("row h ;", 1);
    }

    /** "all rows ahead of any walker", "a row behind a walker" */
    private static void rowsAheadOfWalkers() {
        fault("row hh;walker 0 1;row hh;", 18);
        fault("row hh;walker 0 1;sink 1;row hh;", 25);
        fault("row hh;walker 0 1;walker 1 0;row h;", 29);
        fault("row hh;walker 0 2;row hh;", 16);
        told("row hh;row hh;walker 0 2;", 3);
    }

    /** "A text without a row: no CELLS." */
    private static void textWithoutRow() {
        MoorStones x = told(MOST_CELLS + "walker 0 1;", 5);
        typeText(x, "sink 4;");
        due("moor", x.moor(), 1);
        due("WIDE", x.count(0), 0);
        due("HIGH", x.count(1), 0);
        due("WALKERS", x.count(2), 0);
        due("SINK", x.count(3), 4);
        due("CELL 0", x.cell(0, 0), BAD);
        for (int what = 0; what <= 3; what++) {
            due("now", x.now(what), 0);
        }
        due("joined", x.joined(-1, 1), 0);
        fault("walker 0 1;", 7);
        fault("walker 1 0;", 7);
    }

    private static boolean isLetter(int b) {
        return b >= 'a' && b <= 'z';
    }

    private static boolean isDigit(int b) {
        return b >= '0' && b <= '9';
    }

    /** "of a byte that begins none ... that TOKEN's": each of the 256 bytes, alone and behind blanks */
    private static void everyByteAtTheStart() {
        for (int b = 0; b <= 255; b++) {
            if (b != ' ') {
                fault("" + (char) b, 0);
                fault("   " + (char) b, 3);
                fault("row h;" + (char) b, 6);
            }
        }
    }

    /** "TOKENS are words of letters a .. z": each of the 256 bytes behind a row's letter */
    private static void everyByteBehindARow() {
        for (int b = 0; b <= 255; b++) {
            String text = "row h" + (char) b;
            if (b == ';') {
                told(text, 1);
            } else if (b == ' ' || b == 'h' || b == 'b' || b == 's') {
                fault(text, 6);
            } else {
                fault(text, isLetter(b) ? 4 : 5);
            }
        }
    }

    /** "NUMBERS": each of the 256 bytes behind a digit */
    private static void everyByteBehindANumber() {
        for (int b = 0; b <= 255; b++) {
            String text = "sink 1" + (char) b;
            if (b == ';') {
                told(text, 1);
            } else if (isDigit(b)) {
                fault(text, 5);
            } else {
                fault(text, b == ' ' ? 7 : 6);
            }
        }
    }

    /** "a word behind row that has another letter, or is not as long as it must be" */
    private static void wordsBehindRow() {
        for (char letter = 'a'; letter <= 'z'; letter++) {
            if (letter == 'h' || letter == 'b' || letter == 's') {
                told("row " + letter + ";", 1);
            } else {
                fault("row " + letter + ";", 4);
                fault("row " + letter + "hbshb;", 4);
                fault("row hbshb" + letter + ";", 4);
            }
        }
        fault("row hb;row h;", 11);
        fault("row hb;row hbh;", 11);
        fault("row h;row hb;", 10);
        fault("row hhhhhh;row hhhhh;", 15);
        fault("row hhhhhh;row hhhhhhh;", 15);
        fault("row hb;row hb;row hb;row b;", 25);
        fault("row row;", 4);
        fault("row hB;", 5);
    }

    /** "a word that is none of these" */
    private static void wordsThatAreNone() {
        String[] words = {"r", "ro", "rows", "rov", "rox", "qow", "rpw", "w", "walke", "walkers", "walkes", "valker",
            "s", "sin", "sinks", "sinl", "tink", "h", "b", "hbs", "a", "z", "rowrow", times("row", 80)};
        for (String word : words) {
            fault(word + " h;", 0);
            fault("sink 1;" + word, 7);
        }
        fault("row hh;walker walker 1;", 14);
        fault("row hh;walker 0 walker;", 16);
        fault("sink sink;", 5);
        fault("Row h;", 0);
        fault("rOw h;", 0);
    }

    /** "a NUMBER above 99 or with a 0 ahead of others" */
    private static void numbersThatAreNone() {
        String[] numbers = {"00", "01", "05", "09", "000", "007", "100", "101", "999", "1000", "65536", "2147483647",
            "2147483648", "4294967296", "4294967299", "9223372036854775807", "9223372036854775808",
            "18446744073709551616", "18446744073709551619", times("0", 200), times("9", 200)};
        for (String number : numbers) {
            fault("sink " + number + ";", 5);
            fault("row hhhh;walker " + number + " 1;", 16);
            fault("row hhhh;walker 1 " + number + ";", 18);
            fault("row " + number + ";", 4);
            fault(number, 0);
        }
        due("0 alone", told("row hh;walker 0 1;", 2).walker(0, 0), 0);
        fault("sink -1;", 5);
        fault("sink +1;", 5);
    }

    /** "FAULT: the place of the first byte of the first TOKEN that can't stand there" */
    private static void faultOfTheFirst() {
        fault("row hx;row hhhhhhh;sink 10;", 4);
        fault("row h;sink 10;row hx;", 11);
        fault("row h;walker 0 0;sink 10;", 15);
        fault("row hh;walker 2 2;", 14);
        fault("sink 1;rows h;?", 7);
        fault("sink ?;", 5);
        fault("row ?;", 4);
        fault("row hh;walker ;", 14);
        fault("row hh;walker 0 ;", 16);
        fault("row hh;walker 0 1 0;", 18);
        fault("0;", 0);
        fault("row 0;", 4);
        fault("sink h;", 5);
    }

    /** "the text's length, if it ends too early" */
    private static void endsTooEarly() {
        String whole = "row hs;walker 0 1;sink 5;";
        for (int length = 0; length <= whole.length(); length++) {
            String text = whole.substring(0, length);
            boolean inWord = text.matches(".*;(w|wa|wal|walk|walke|s|si|sin)|r|ro");
            if (text.isEmpty() || text.endsWith(";")) {
                told(text, text.replaceAll("[^;]", "").length());
            } else if (inWord) {
                fault(text, text.lastIndexOf(';') + 1);
            } else {
                fault(text, length);
                fault(text + "  ", length + 2);
            }
        }
        fault("row hs;row h", 11);
        fault("row", 3);
        fault("sink", 4);
    }

    /** FAULT's own edges: -10 at the first byte, -310 at the end of the longest text, -309 at its last byte. */
    private static void faultNearest() {
        fault("x", 0);
        fault("x" + times(" ", 299), 0);
        fault(times(" ", 299) + "x", 299);
        fault(times(" ", 299) + ";", 299);
        fault(times(" ", 294) + "row h?", 299);
        fault("row h" + times(" ", 295), 300);
        fault("row" + times(" ", 297), 300);
        fault("row " + times(" ", 295) + "h", 300);
    }

    /** "As told; no CELLS, no WALKERS." */
    private static void newObject() {
        MoorStones x = new MoorStones();
        for (int what = 0; what <= 4; what++) {
            due("count", x.count(what), 0);
        }
        for (int what = 0; what <= 3; what++) {
            due("now", x.now(what), 0);
        }
        due("no CELL", x.cell(0, 0), BAD);
        due("no WALKER", x.walker(0, 0), BAD);
        due("no IMAGE 0", x.back(0), STATE);
        due("no IMAGE 1", x.back(1), STATE);
        due("trace", x.trace(), 0);
        due("joined", x.joined(0, 0), 0);
        due("joined", x.joined(-1, 1), 0);
        due("days 1", x.days(1), 0);
        due("days 9", x.days(9), 0);
        due("anew", x.anew(), 0);
        due("keep", x.keep(1), 0);
        due("back", x.back(1), 0);
        due("clear", x.clear(), 0);
        due("moor", x.moor(), 0);
    }

    /** "The lowest n (1 .. 8) bytes of v": n at its edges; what stands above the n bytes does not count. */
    private static void typeBytes() {
        String[] texts = {";", " ;", "  ;", "   ;", "    ;", "     ;", "      ;", "       ;"};
        for (int n = 1; n <= 8; n++) {
            MoorStones x = new MoorStones();
            long v = ';' | 0x2020202020202000L;
            long above = n == 8 ? 0 : -1L << 8 * n;
            due("type", x.type(v | above, n), n);
            due("moor of " + texts[n - 1], x.moor(), -10 - (n - 1));
            due("bytes", x.count(4), n);
        }
        MoorStones x = new MoorStones();
        due("type 0", x.type(' ', 0), BAD);
        due("type 9", x.type(' ', 9), BAD);
        due("type -1", x.type(' ', -1), BAD);
        due("type -8", x.type(' ', -8), BAD);
        due("type 256 and 1", x.type(' ', 257), BAD);
        due("type least", x.type(' ', Integer.MIN_VALUE), BAD);
        due("type greatest", x.type(' ', Integer.MAX_VALUE), BAD);
        due("nothing came to it", x.count(4), 0);
        due("the least v", x.type(Long.MIN_VALUE, 8), 8);
        due("byte 128 begins none", x.moor(), -10);
        due("clear", x.clear(), 8);
        due("the greatest v", x.type(Long.MAX_VALUE, 8), 8);
        due("byte 127 begins none", x.moor(), -10);
        due("clear", x.clear(), 8);
        due("v -1", x.type(-1, 1), 1);
        due("byte 255 begins none", x.moor(), -10);
        due("clear", x.clear(), 1);
        due("the least v's lowest byte is 0", x.type(Long.MIN_VALUE, 1), 1);
        due("byte 0 begins none", x.moor(), -10);
    }

    /** "the highest of them first, come to THE TEXT: how many it has" */
    private static void typeHighestFirst() {
        MoorStones x = new MoorStones();
        due("type row s;", x.type(0x726f7720733bL, 6), 6);
        due("type sin", x.type(0x73696eL, 3), 9);
        due("type k", x.type('k', 1), 10);
        due("type 7;", x.type(0x373b, 2), 12);
        due("moor", x.moor(), 2);
        due("SINK", x.count(3), 7);
    }

    /** "FULL": for each n the longest text that takes n more, and one that is a byte too long */
    private static void typeFull() {
        for (int n = 1; n <= 8; n++) {
            MoorStones x = new MoorStones();
            typeText(x, times(" ", 300 - n + 1));
            due("one too many", x.type(0x2020202020202020L, n), FULL);
            due("nothing came to it", x.count(4), 301 - n);
            MoorStones y = new MoorStones();
            typeText(y, times(" ", 300 - n));
            due("just as many", y.type(0x2020202020202020L, n), 300);
            due("full", y.type(0x2020202020202020L, n), FULL);
            due("full", y.type(' ', 1), FULL);
            due("bytes", y.count(4), 300);
            due("clear", y.clear(), 300);
            due("there is room again", y.type(' ', n), n);
        }
    }

    /** "the first of these: BAD .., STATE .., FULL" */
    private static void typeBadAheadOfFull() {
        MoorStones x = new MoorStones();
        typeText(x, times(" ", 300));
        due("n 0", x.type(0, 0), BAD);
        due("n 9", x.type(0, 9), BAD);
        due("n least", x.type(0, Integer.MIN_VALUE), BAD);
        due("n greatest", x.type(0, Integer.MAX_VALUE), BAD);
        due("n 8", x.type(0, 8), FULL);
    }

    /** "THE TEXT is empty: how many bytes it had." */
    private static void clear() {
        MoorStones x = new MoorStones();
        due("of nothing", x.clear(), 0);
        typeText(x, "x");
        due("of one", x.clear(), 1);
        due("once more", x.clear(), 0);
        typeText(x, times("x", 300));
        due("of the most", x.clear(), 300);
        due("bytes", x.count(4), 0);
        due("none of it is left", x.moor(), 0);
        typeText(x, "row s;sink 4;");
        due("clear", x.clear(), 13);
        typeText(x, "row b");
        due("what stood behind is gone", x.moor(), -15);
    }

    /** "THE TEXT tells all, and is empty then: how many ITEMS." */
    private static void moorEmptiesTheText() {
        MoorStones x = told("row s;", 1);
        due("bytes", x.count(4), 0);
        due("clear", x.clear(), 0);
        due("no ITEMS in it now", x.moor(), 0);
        due("no CELLS then", x.count(0), 0);
        typeText(x, times(" ", 294) + "row h;");
        due("moor of 300 bytes", x.moor(), 1);
        typeText(x, times(" ", 300));
        due("there is room for 300 again", x.count(4), 300);
    }

    /** "THE TEXT tells all": nothing is left of an earlier one, from the most to the least and back */
    private static void moorTellsAll() {
        MoorStones x = told(MOST_CELLS + "walker 0 23;walker 23 0;walker 1 2;walker 2 1;sink 9;", 9);
        typeText(x, "row h;");
        due("moor", x.moor(), 1);
        due("WIDE", x.count(0), 1);
        due("HIGH", x.count(1), 1);
        due("WALKERS", x.count(2), 0);
        due("SINK", x.count(3), 0);
        dueAll("ground", ground(x), 0);
        due("walker", x.walker(0, 0), BAD);
        due("HEATHER", x.now(0), 1);
        due("BOG", x.now(1), 0);
        due("STONES", x.now(2), 0);
        due("steps", x.steps(0, 0), 0);
        typeText(x, "row hbh;row hbb;row bhb;row bbb;");
        due("moor", x.moor(), 4);
        due("a STEP across", x.steps(0, 2), 1);
        due("a STEP down", x.steps(0, 3), 1);
        due("no STEP over the edges that are now", x.steps(2, 3), 2);
        due("no STEP over the edges that are now", x.steps(7, 3), NONE);
        typeText(x, "row hhhhhh;row bbbbbb;");
        due("moor", x.moor(), 2);
        due("STEPS where the edge was", x.steps(0, 5), 3);
        due("STEPS where the edge was", x.steps(5, 0), 3);
        typeText(x, MOST_CELLS + "walker 3 4;");
        due("moor", x.moor(), 5);
        due("STONES", x.now(2), 8);
        due("a STONE bears 0", x.cell(23, 1), 0);
        due("from", x.walker(0, 0), 3);
        due("WALKERS", x.count(2), 1);
    }

    /** "-10 less FAULT: nothing changes (THE TEXT stays, too)": it may be typed on and stand then */
    private static void faultLeavesAll() {
        MoorStones x = told("row sb;walker 0 1;sink 3;", 3);
        due("keep", x.keep(1), 1);
        typeText(x, "row hhh;row bbb;walker 0 5;sink 9");
        due("it ends too early", x.moor(), -43);
        due("WIDE", x.count(0), 2);
        due("HIGH", x.count(1), 1);
        due("WALKERS", x.count(2), 1);
        due("to", x.walker(0, 1), 1);
        due("SINK", x.count(3), 3);
        due("bytes", x.count(4), 33);
        dueAll("ground", ground(x), 2, 1);
        due("steps, as WIDE as it was", x.steps(0, 0), 0);
        due("anew", x.anew(), 0);
        dueAll("ground", ground(x), 2, 1);
        due("the IMAGE stays", x.back(1), 1);
        due("typed on", x.type(';', 1), 34);
        due("moor", x.moor(), 4);
        due("SINK", x.count(3), 9);
        due("the IMAGE is gone", x.back(1), STATE);
    }

    /** The most ITEMS that a text can hold, 4 rows and 4 walkers and sink, in the fewest bytes and in 300. */
    private static void mostItems() {
        String most = MOST_CELLS + times("walker 23 22;", 4) + "sink 9;";
        told(most, 9);
        told(most + times(" ", 300 - most.length()), 9);
        told("row h;row h;row h;row h;walker 0 1;walker 1 2;walker 2 3;walker 3 0;sink 0;", 9);
    }

    /** "0 WIDE, 1 HIGH, 2 WALKERS, 3 SINK, 4 bytes of THE TEXT. BAD." */
    private static void countEdges() {
        MoorStones x = told(MOST_CELLS + times("walker 23 22;", 4) + "sink 9;", 9);
        typeText(x, times("x", 300));
        int[] most = {6, 4, 4, 9, 300};
        for (int what = 0; what <= 4; what++) {
            due("count", x.count(what), most[what]);
        }
        due("count -1", x.count(-1), BAD);
        due("count 5", x.count(5), BAD);
        due("count least", x.count(Integer.MIN_VALUE), BAD);
        due("count greatest", x.count(Integer.MAX_VALUE), BAD);
    }
}
