/**
 * The boundary cases of steps, ways, passing, days, stones, turns, kinds and images (Terms 2 to 4, promises 5 to 22):
 * each sentence of the document has a test of its own, which quotes it. What is due was worked out by hand.
 */
public final class BoundaryTest extends Checks {
    private static final String HEATH = "row hhhhhh;row hhhhhh;row hhhhhh;row hhhhhh;";
    private static final String MIRE = "row bbbbbb;row bbbbbb;row bbbbbb;row bbbbbb;";

    public static void main(String[] args) {
        whatBears();
        oneOrTwoOff();
        inItsRowOrColumn();
        whateverLiesBetween();
        wayBothBear();
        wayToItself();
        wayFewestSteps();
        wayFirstByItsCells();
        wayPlaces();
        passesStepOnStones();
        passesStartDoesNotCount();
        passesSinkOfOne();
        passesSinkOfNine();
        passesSinkOfNought();
        passesLaidByNobody();
        passesLaysInBogAhead();
        passesLastBog();
        passesNoWay();
        passesFewestAndMostSteps();
        cellOfEachSort();
        walkerLaid();
        nowCounts();
        nowPassed();
        anewAsTold();
        daysOneToNine();
        daysWhoCould();
        daysAheadOfGoing();
        daysWalkerByWalker();
        stonesOneAndTheSame();
        stonesFewestAndMost();
        joinedEmptySet();
        joinedOneCell();
        joinedLeftOut();
        joinedTenOfBog();
        joinedLeastOfSeveral();
        joinedAllBear();
        likesShortest();
        likesNoWayIsLonger();
        likesNoneByAny();
        likesLeastOfSeveral();
        likesNoBog();
        byTurnsNought();
        byTurnsOneAndTheSame();
        byTurnsEightOfBog();
        byTurnsSoonAndLate();
        apartOneStep();
        apartNotBearing();
        apartFewestAndMost();
        apartTwelveMayBear();
        rateWalker();
        ratePilgrim();
        rateShepherd();
        rateMonk();
        rateThief();
        rateChild();
        rateNo();
        traceAtItsMost();
        imagesKeepNow();
        imagesNothingElse();
        imagesBackAgain();
        imagesOfNoCells();
        imagesGoneByMoor();
        imagesStayByAnew();
        callsAtTheirMost();
        end("the boundaries hold");
    }

    // ---- steps, ways

    /** "HEATHER and STONES bear." */
    private static void whatBears() {
        MoorStones x = told("row hsb;", 1);
        due("HEATHER", x.steps(0, 0), 0);
        due("a STONE", x.steps(1, 1), 0);
        due("BOG", x.steps(2, 2), NONE);
        due("to a STONE", x.steps(0, 1), 1);
        due("from a STONE", x.steps(1, 0), 1);
        due("to BOG", x.steps(0, 2), NONE);
        due("from BOG", x.steps(2, 0), NONE);
    }

    /** "one or two off in its row or column" */
    private static void oneOrTwoOff() {
        MoorStones x = told(HEATH, 4);
        int[] alongTheRow = {0, 1, 1, 2, 2, 3};
        for (int c = 0; c < 6; c++) {
            due("along the row", x.steps(0, c), alongTheRow[c]);
            due("and back", x.steps(c, 0), alongTheRow[c]);
            due("the last row", x.steps(18, 18 + c), alongTheRow[c]);
        }
        for (int row = 0; row < 4; row++) {
            due("down the column", x.steps(0, 6 * row), alongTheRow[row]);
            due("and up", x.steps(6 * row, 0), alongTheRow[row]);
            due("the last column", x.steps(5, 5 + 6 * row), alongTheRow[row]);
        }
        due("three off in the row", told("row hbbh;", 1).steps(0, 3), NONE);
        due("three off in the column", told("row h;row b;row b;row h;", 4).steps(0, 3), NONE);
        due("two off in the row", told("row hbh;", 1).steps(2, 0), 1);
        due("two off in the column", told("row h;row b;row h;", 3).steps(2, 0), 1);
        due("the farthest of all", x.steps(0, 23), 5);
        due("the farthest of all", x.steps(23, 0), 5);
        due("the farthest of all", x.steps(5, 18), 5);
    }

    /** "in its row or column": neither aslant nor over the moor's edges */
    private static void inItsRowOrColumn() {
        due("aslant", told("row hb;row bh;", 2).steps(0, 3), NONE);
        due("aslant", told("row bh;row hb;", 2).steps(1, 2), NONE);
        due("a knight's step", told("row hbb;row bbh;", 2).steps(0, 5), NONE);
        due("over the right edge, one off", told("row bbh;row hbb;", 2).steps(2, 3), NONE);
        due("over the left edge, one off", told("row bbh;row hbb;", 2).steps(3, 2), NONE);
        due("over the right edge, two off", told("row bbhb;row hbbb;", 2).steps(2, 4), NONE);
        due("over the right edge, two off", told("row bbbh;row bhbb;", 2).steps(3, 5), NONE);
        due("over the left edge, two off", told("row bbbh;row bhbb;", 2).steps(5, 3), NONE);
        due("two WIDE, two off", told("row hb;row bb;row hb;", 3).steps(0, 4), 1);
        due("one WIDE", told("row h;row h;row h;row h;", 4).steps(0, 3), 2);
        due("from the last row to the first", told("row h;row b;row b;row h;", 4).steps(3, 0), NONE);
        due("from the last CELL to the first", told("row hbbb;row bbbb;row bbbh;", 3).steps(11, 0), NONE);
    }

    /** "(whatever lies between)" */
    private static void whateverLiesBetween() {
        for (String between : new String[] {"h", "b", "s"}) {
            due(between + " in the row", told("row h" + between + "h;", 1).steps(0, 2), 1);
            due(between + " in the column", told("row h;row " + between + ";row h;", 3).steps(0, 2), 1);
        }
        MoorStones x = told("row hsh;walker 0 2;sink 1;", 3);
        due("over a STONE", x.steps(0, 2), 1);
        due("no BOG to lay in", x.passes(0, 1), STATE);
        MoorStones y = told("row hshb;walker 0 2;sink 1;", 3);
        due("over a STONE", y.passes(0, 3), 1);
        due("it was not stepped on", y.cell(1, 1), 1);
    }

    /** "WAY from a CELL to another one (both bear)": "NONE" */
    private static void wayBothBear() {
        MoorStones x = told("row bhb;", 1);
        due("from BOG", x.steps(0, 1), NONE);
        due("to BOG", x.steps(1, 0), NONE);
        due("both", x.steps(0, 2), NONE);
        due("from BOG", x.way(0, 1, 0), NONE);
        due("to BOG", x.way(1, 0, 0), NONE);
        due("to BOG, far along", x.way(1, 0, Integer.MAX_VALUE), NONE);
        due("both", x.way(0, 2, 1), NONE);
        MoorStones cut = told("row hbbh;", 1);
        due("both bear and there is none", cut.way(0, 3, 0), NONE);
        due("both bear and there is none", cut.way(3, 0, 1), NONE);
    }

    /** "(0: one and the same that bears)" */
    private static void wayToItself() {
        MoorStones x = told("row hsb;", 1);
        for (int c = 0; c < 2; c++) {
            due("steps", x.steps(c, c), 0);
            due("way 0", x.way(c, c, 0), c);
            due("way 1", x.way(c, c, 1), -5);
            due("way -1", x.way(c, c, -1), BAD);
        }
        due("BOG", x.steps(2, 2), NONE);
        due("BOG", x.way(2, 2, 0), NONE);
        due("BOG", x.way(2, 2, 1), NONE);
        MoorStones one = told("row h;", 1);
        due("the only CELL", one.steps(0, 0), 0);
        due("the only CELL", one.way(0, 0, 0), 0);
        MoorStones most = told(HEATH, 4);
        due("the last CELL", most.way(23, 23, 0), 23);
    }

    /** "of ways of the fewest STEPS" */
    private static void wayFewestSteps() {
        // 0 1 .. is less than 0 12, but has more STEPS
        MoorStones x = told("row hhhhhh;row bbbbbb;row hhhhhh;", 3);
        dueAll("straight down", way(x, 0, 12), 0, 12);
        dueAll("straight up", way(x, 17, 5), 17, 5);
        MoorStones round = told("row hhhhhh;row bbbbbh;row bbbbbh;row hhhhhh;", 4);
        dueAll("round about", way(round, 0, 18), 0, 1, 3, 5, 11, 23, 21, 19, 18);
        due("its last", round.way(0, 18, 8), 18);
        due("behind it", round.way(0, 18, 9), -5);
    }

    /** "the first by its CELLS (the first that differs is less)" */
    private static void wayFirstByItsCells() {
        MoorStones x = told(HEATH, 4);
        dueAll("across, then down", way(x, 0, 23), 0, 1, 3, 5, 11, 23);
        dueAll("up, then back", way(x, 23, 0), 23, 11, 5, 3, 1, 0);
        dueAll("up", way(x, 18, 5), 18, 6, 0, 1, 3, 5);
        dueAll("three off", way(x, 2, 5), 2, 3, 5);
        dueAll("three off, back", way(x, 5, 2), 5, 3, 2);
        dueAll("three down", way(x, 0, 18), 0, 6, 18);
        dueAll("three up", way(x, 18, 0), 18, 6, 0);
        dueAll("aslant", way(x, 8, 15), 8, 9, 15);
        dueAll("aslant, up", way(x, 15, 8), 15, 9, 8);
        // the first that differs decides, not the last: 0 1 7 is less than 0 6 7
        dueAll("the first that differs", way(x, 0, 7), 0, 1, 7);
    }

    /** "The i-th CELL of a WAY (0: a); NONE: no WAY; -5: not so many. BAD (i below 0)." */
    private static void wayPlaces() {
        MoorStones x = told("row hbh;", 1);
        due("i 0", x.way(2, 0, 0), 2);
        due("i 1", x.way(2, 0, 1), 0);
        due("i 2", x.way(2, 0, 2), -5);
        due("i 24", x.way(2, 0, 24), -5);
        due("i 2^16", x.way(2, 0, 1 << 16), -5);
        due("i 2^31 - 1", x.way(2, 0, Integer.MAX_VALUE), -5);
        due("i -1", x.way(2, 0, -1), BAD);
        due("i -5", x.way(2, 0, -5), BAD);
        due("i -2^31", x.way(2, 0, Integer.MIN_VALUE), BAD);
        due("no WAY, i -1", x.way(1, 0, -1), BAD);
        due("no CELL, i -1", x.way(3, 0, -1), BAD);
    }

    // ---- who passes

    /** "each STONE that it steps on ... bears one STEP less": the goal, too, and none beside the WAY */
    private static void passesStepOnStones() {
        MoorStones x = told("row ssssss;row ssssss;row bbbbbb;walker 0 11;sink 2;", 5);
        dueAll("way", way(x, 0, 11), 0, 1, 3, 5, 11);
        due("passes", x.passes(0, 12), 4);
        dueAll("bears", cells(x, 1), 2, 1, 2, 1, 2, 1, 2, 2, 2, 2, 2, 1, 2, 0, 0, 0, 0, 0);
        dueAll("ground", ground(x), 2, 2, 2, 2, 2, 2, 2, 2, 2, 2, 2, 2, 2, 1, 1, 1, 1, 1);
    }

    /** "(not the CELL it starts from)" */
    private static void passesStartDoesNotCount() {
        MoorStones x = told("row shbbb;walker 0 1;sink 1;", 3);
        for (int c = 2; c < 5; c++) {
            due("passes", x.passes(0, c), 1);
            due("it starts from a STONE", x.cell(0, 0), 2);
            due("which bears no less", x.cell(0, 1), 1);
        }
    }

    /** "one that bears none any more is BOG again behind that": SINK 1, at once */
    private static void passesSinkOfOne() {
        MoorStones x = told("row hsbh;walker 0 3;sink 1;", 3);
        due("passes, over two STEPS", x.passes(0, 2), 2);
        due("it is BOG", x.cell(1, 0), 1);
        due("it bears none", x.cell(1, 1), 0);
        due("the one that it laid bears", x.cell(2, 1), 1);
        due("passes again", x.passes(0, 1), 2);
        due("that sank, too", x.cell(2, 0), 1);
        MoorStones goal = told("row hsb;walker 0 1;sink 1;", 3);
        due("to a STONE", goal.passes(0, 2), 1);
        due("the goal sank behind it", goal.cell(1, 0), 1);
        due("no WAY any more", goal.passes(0, 1), STATE);
        due("once in all", goal.walker(0, 2), 1);
    }

    /** SINK at its greatest: the ninth STEP sinks it, the eighth does not. */
    private static void passesSinkOfNine() {
        MoorStones x = told("row hsbbbb;row bbbbbb;walker 0 1;sink 9;", 4);
        for (int step = 1; step <= 9; step++) {
            due("it stands yet", x.cell(1, 0), 2);
            due("bears", x.cell(1, 1), 10 - step);
            due("passes", x.passes(0, step + 1), 1);
        }
        due("it is BOG", x.cell(1, 0), 1);
        due("it bears none", x.cell(1, 1), 0);
        due("laid by nobody", x.cell(1, 2), NONE);
        due("no WAY", x.passes(0, 11), STATE);
        due("nine STONES", x.now(2), 9);
        for (int c = 2; c <= 10; c++) {
            due("laid, and not stepped on", x.cell(c, 1), 9);
        }
    }

    /** "(where SINK is above 0)" */
    private static void passesSinkOfNought() {
        for (String sink : new String[] {"", "sink 0;"}) {
            MoorStones x = told("row hsbbbb;row bbbbbb;walker 0 1;" + sink, sink.isEmpty() ? 3 : 4);
            for (int c = 2; c <= 11; c++) {
                due("passes", x.passes(0, c), 1);
                due("it stands", x.cell(1, 0), 2);
                due("0 as ever", x.cell(1, 1), 0);
                due("a laid one", x.cell(c, 1), 0);
                due("by whom", x.cell(c, 2), 0);
            }
        }
    }

    /** "is BOG again behind that, laid by nobody": also one that somebody laid; and laid anew it is another's */
    private static void passesLaidByNobody() {
        MoorStones x = told("row hbbh;row hhbb;walker 4 5;walker 0 3;sink 1;", 5);
        due("the first one lays", x.passes(0, 1), 1);
        due("by the first", x.cell(1, 2), 0);
        due("laid", x.walker(0, 3), 1);
        due("the second one steps on it", x.passes(1, 2), 2);
        due("it is BOG", x.cell(1, 0), 1);
        due("by nobody", x.cell(1, 2), NONE);
        due("none is left of the first", x.walker(0, 3), 0);
        due("how often it PASSED stays", x.walker(0, 2), 1);
        due("the second lays there", x.passes(1, 1), 2);
        due("by the second", x.cell(1, 2), 1);
        due("its other one sank under it", x.walker(1, 3), 1);
    }

    /** "Then it lays a STONE in a CELL that was BOG ahead of its going (it bears SINK)." */
    private static void passesLaysInBogAhead() {
        MoorStones x = told("row hsbh;walker 0 1;sink 1;", 3);
        due("not where a STONE is that will sink", x.passes(0, 1), STATE);
        due("it did not go", x.cell(1, 0), 2);
        due("not in HEATHER", x.passes(0, 0), STATE);
        due("nor in the other", x.passes(0, 3), STATE);
        due("in BOG", x.passes(0, 2), 1);
        due("it bears SINK", x.cell(2, 1), 1);
        due("not in its own STONE", x.passes(0, 2), STATE);
    }

    /** "no BOG there": the last BOG of all */
    private static void passesLastBog() {
        MoorStones x = told("row hhb;walker 0 1;", 2);
        due("the last BOG", x.passes(0, 2), 1);
        due("no BOG is left", x.now(1), 0);
        for (int c = 0; c < 3; c++) {
            due("no BOG there", x.passes(0, c), STATE);
        }
        MoorStones one = told("row h;row h;row b;walker 1 0;", 4);
        due("one WIDE", one.passes(0, 2), 1);
        MoorStones most = told("row hhhhhh;row hhhhhh;row hhhhhh;row hhhhhb;walker 22 21;", 5);
        due("the greatest CELL", most.passes(0, 23), 1);
        due("by whom", most.cell(23, 2), 0);
        MoorStones least = told("row bhh;walker 1 2;", 2);
        due("the least CELL", least.passes(0, 0), 1);
        due("by whom", least.cell(0, 2), 0);
        due("laid", least.walker(0, 3), 1);
    }

    /** "STATE: no WAY" */
    private static void passesNoWay() {
        MoorStones x = told("row hbbh;walker 0 3;walker 0 1;walker 2 3;walker 1 2;", 5);
        for (int k = 0; k < 4; k++) {
            due("no WAY", x.passes(k, 1), STATE);
            due("no WAY", x.passes(k, 2), STATE);
            due("neither WAY nor BOG", x.passes(k, 0), STATE);
            due("no CELL", x.passes(k, 4), BAD);
            due("PASSED", x.walker(k, 2), 0);
        }
        due("no WALKER ahead of no WAY", x.passes(4, 1), BAD);
    }

    /** "how many STEPS": one, and eight round about */
    private static void passesFewestAndMostSteps() {
        due("one", told("row hb;row hb;walker 0 2;", 3).passes(0, 1), 1);
        MoorStones x = told("row ssssss;row bbbbbs;row bbbbbs;row ssssss;walker 0 18;sink 1;", 6);
        due("eight", x.passes(0, 6), 8);
        dueAll("all on its WAY sank", ground(x), 2, 1, 2, 1, 2, 1, 2, 1, 1, 1, 1, 1, 1, 1, 1, 1, 1, 2, 1, 1, 2, 1, 2, 1);
    }

    /** "0 HEATHER (0), BOG (1), a STONE (2); 1 ... (0: no STONE, or SINK 0), 2 who laid it (NONE)" */
    private static void cellOfEachSort() {
        MoorStones x = told("row hbsb;walker 0 2;sink 9;", 3);
        due("passes", x.passes(0, 3), 1);
        dueAll("ground", cells(x, 0), 0, 1, 2, 2);
        dueAll("bears", cells(x, 1), 0, 0, 8, 9);
        dueAll("laid", cells(x, 2), NONE, NONE, NONE, 0);
        MoorStones four = told("row hsbbbb;walker 0 1;walker 1 0;walker 0 1;walker 1 0;", 5);
        for (int k = 0; k < 4; k++) {
            due("passes", four.passes(k, k + 2), 1);
        }
        dueAll("SINK 0", cells(four, 1), 0, 0, 0, 0, 0, 0);
        dueAll("laid, from the least to the greatest", cells(four, 2), NONE, NONE, 0, 1, 2, 3);
    }

    /** "2 how often it PASSED, 3 STONES there are that it laid" */
    private static void walkerLaid() {
        MoorStones x = told("row hhbbbb;row bbbbbb;row bbbbbb;row bbbbbb;walker 0 1;walker 1 0;walker 0 1;walker 1 0;", 8);
        for (int c = 2; c < 24; c++) {
            due("none yet", x.walker(3, 3), c - 2);
            due("passes", x.passes(3, c), 1);
            due("PASSED", x.walker(3, 2), c - 1);
        }
        due("22 STONES of the last WALKER", x.walker(3, 3), 22);
        due("none of the first", x.walker(0, 3), 0);
        due("none of the first", x.walker(0, 2), 0);
        due("told ones are nobody's", told("row sss;walker 0 1;", 2).walker(0, 3), 0);
    }

    /** "0 HEATHER, 1 BOG, 2 STONES: how many CELLS" */
    private static void nowCounts() {
        int[][] all = {{24, 0, 0}, {0, 24, 0}, {0, 0, 24}};
        String[] texts = {HEATH, MIRE, MIRE.replace('b', 's')};
        for (int i = 0; i < 3; i++) {
            MoorStones x = told(texts[i], 4);
            for (int what = 0; what < 3; what++) {
                due("of the greatest moor", x.now(what), all[i][what]);
            }
            due("now 4", x.now(4), BAD);
            due("now -1", x.now(-1), BAD);
        }
        MoorStones one = told("row b;", 1);
        due("of the least", one.now(1), 1);
        due("of the least", one.now(0), 0);
        due("of the least", one.now(2), 0);
    }

    /** "3 how often all PASSED" */
    private static void nowPassed() {
        MoorStones x = told("row shb;walker 0 1;walker 1 0;sink 1;", 4);
        due("none", x.now(3), 0);
        due("passes", x.passes(0, 2), 1);
        due("one", x.now(3), 1);
        due("passes: refused", x.passes(0, 2), STATE);
        due("one yet", x.now(3), 1);
        MoorStones four = told("row hhbbbb;walker 0 1;walker 1 0;walker 0 1;walker 1 0;", 5);
        due("days", four.days(9), 32);
        due("all four", four.now(3), 4);
        due("no WALKERS", told("row h;", 1).now(3), 0);
    }

    /** "NOW is as told (IMAGES stay): how often all had PASSED." */
    private static void anewAsTold() {
        MoorStones x = told("row hsbb;walker 0 1;sink 1;", 3);
        due("none had", x.anew(), 0);
        due("passes", x.passes(0, 3), 1);
        due("one had", x.anew(), 1);
        due("none now", x.anew(), 0);
        dueAll("ground", ground(x), 0, 2, 1, 1);
        dueAll("bears", cells(x, 1), 0, 1, 0, 0);
        dueAll("laid", cells(x, 2), NONE, NONE, NONE, NONE);
        due("PASSED", x.walker(0, 2), 0);
        due("laid", x.walker(0, 3), 0);
        due("it can pass again", x.passes(0, 3), 1);
    }

    // ---- days

    /** "DAYS n (1 .. 9)" */
    private static void daysOneToNine() {
        for (int n = 1; n <= 9; n++) {
            MoorStones cut = told("row hbbh;walker 0 3;walker 3 0;walker 0 1;walker 1 2;", 5);
            due("nobody could", cut.days(n), 4 * n);
            due("nobody PASSED", cut.now(3), 0);
            MoorStones free = told("row hhbbbb;row bbbbbb;walker 0 1;", 3);
            due("it could each day", free.days(n), 0);
            due("PASSED", free.now(3), n);
            due("no WALKERS", told("row hbh;", 1).days(n), 0);
        }
        MoorStones x = told("row hhbbbb;walker 0 1;", 2);
        due("0", x.days(0), BAD);
        due("10", x.days(10), BAD);
        due("-1", x.days(-1), BAD);
        due("least", x.days(Integer.MIN_VALUE), BAD);
        due("greatest", x.days(Integer.MAX_VALUE), BAD);
        due("nobody PASSED", x.now(3), 0);
        due("no CELLS", new MoorStones().days(9), 0);
    }

    /** "who has a WAY, and BOG to lay in, PASSES": "how often one could not" */
    private static void daysWhoCould() {
        MoorStones x = told("row hhbb;walker 0 1;walker 0 3;", 3);
        // day 1: WALKER 0 lays in 2, so WALKER 1 gets no WAY to 3, which is BOG; day 2: 0 lays in 3, 1 has a WAY, no BOG
        due("day 1", x.days(1), 1);
        due("day 2", x.days(1), 1);
        due("day 3: no BOG", x.days(1), 2);
        due("PASSED", x.walker(0, 2), 2);
        due("PASSED", x.walker(1, 2), 0);
        MoorStones full = told("row hhhs;walker 0 1;walker 3 0;sink 1;", 4);
        due("no BOG at all", full.days(9), 18);
        due("nothing sinks", full.cell(3, 1), 1);
    }

    /** "lays where it LIKES (as the moor is ahead of its going)" */
    private static void daysAheadOfGoing() {
        // ahead of it all BOG is alike: 3, the least; behind it 1 has sunk, and would be the least
        MoorStones x = told("row hshbb;walker 0 1;sink 1;", 3);
        due("one day", x.days(1), 0);
        dueAll("ground", ground(x), 0, 1, 0, 2, 1);
        // its WAY is 0 1 3 4 ahead of its going, though the STONE that it lays in 2 makes it shorter behind that
        MoorStones y = told("row hsbsh;walker 0 4;sink 1;", 3);
        due("one day", y.days(1), 0);
        dueAll("ground: it went over 1 and 3", ground(y), 0, 1, 2, 1, 0);
    }

    /** "n times WALKER by WALKER" */
    private static void daysWalkerByWalker() {
        // on each day 0 lays ahead of 1: 2 and 3, 4 and 5, then none is left
        MoorStones x = told("row hhbbbb;walker 0 1;walker 1 0;", 3);
        due("three days", x.days(3), 2);
        dueAll("laid", cells(x, 2), NONE, NONE, 0, 1, 0, 1);
        MoorStones y = told("row hhbbbb;walker 0 1;walker 1 0;", 3);
        due("a day", y.days(1), 0);
        dueAll("laid", cells(y, 2), NONE, NONE, 0, 1, NONE, NONE);
        due("two days", y.days(2), 2);
        dueAll("as three at once", cells(y, 2), NONE, NONE, 0, 1, 0, 1);
    }

    // ---- stones, joined

    /** "(one and the same: 1 if it is BOG, else 0)" */
    private static void stonesOneAndTheSame() {
        MoorStones x = told("row hsb;", 1);
        due("HEATHER", x.stones(0, 0), 0);
        due("a STONE", x.stones(1, 1), 0);
        due("BOG", x.stones(2, 2), 1);
        due("the greatest CELL", told(MIRE, 4).stones(23, 23), 1);
        due("the least moor", told("row b;", 1).stones(0, 0), 1);
    }

    /** "the fewest CELLS of BOG that must bear, too, so that there is a WAY" */
    private static void stonesFewestAndMost() {
        due("one STEP", told("row hh;", 1).stones(0, 1), 0);
        due("two off", told("row hbh;", 1).stones(0, 2), 0);
        due("three off", told("row hbbh;", 1).stones(0, 3), 1);
        due("four off", told("row hbbbh;", 1).stones(0, 4), 1);
        due("five off", told("row hbbbbh;", 1).stones(0, 5), 2);
        due("the goal alone", told("row hb;", 1).stones(0, 1), 1);
        due("the start alone", told("row hb;", 1).stones(1, 0), 1);
        due("both", told("row bb;", 1).stones(0, 1), 2);
        MoorStones mire = told(MIRE, 4);
        due("the most", mire.stones(0, 23), 6);
        due("the most", mire.stones(18, 5), 6);
        due("nothing is changed", mire.now(1), 24);
        // more STEPS, but no BOG: round about by 5, 17, 23
        MoorStones round = told("row hhhhhh;row bbbbbh;row bbbbbh;row hhhhhh;", 4);
        due("round about", round.stones(0, 18), 0);
    }

    /** "(bits of CELLS; those that there are not are left out)": none at all */
    private static void joinedEmptySet() {
        for (String text : new String[] {"row h;", "row b;", "row bbbbbb;row bbbbhh;"}) {
            MoorStones x = told(text, text.replaceAll("[^;]", "").length());
            due("how many", x.joined(0, 0), 0);
            due("which", x.joined(0, 1), 0);
        }
        due("no CELLS", new MoorStones().joined(0, 0), 0);
        due("no CELLS", new MoorStones().joined(-1, 0), 0);
        due("no CELLS", new MoorStones().joined(-1, 1), 0);
    }

    /** "all of some CELLS are joined by STEPS ... and bear": one CELL */
    private static void joinedOneCell() {
        MoorStones x = told("row hsb;", 1);
        due("HEATHER", x.joined(1, 1), 0);
        due("a STONE", x.joined(2, 1), 0);
        due("BOG", x.joined(4, 1), 4);
        due("BOG", x.joined(4, 0), 1);
        MoorStones last = told("row hhhhhh;row hhhhhh;row hhhhhh;row hhhhhb;", 4);
        due("the greatest CELL", last.joined(1 << 23, 1), 1 << 23);
        due("the greatest CELL", last.joined(1 << 23, 0), 1);
        due("all of them", last.joined(-1, 1), 1 << 23);
        due("all but it", last.joined((1 << 23) - 1, 1), 0);
    }

    /** "those that there are not are left out": far out at both ends */
    private static void joinedLeftOut() {
        MoorStones x = told("row hbb;", 1);
        due("bit 3", x.joined(8, 0), 0);
        due("bit 31", x.joined(Integer.MIN_VALUE, 1), 0);
        due("bits 3 to 31", x.joined(-8, 1), 0);
        due("bits 3 to 30", x.joined(Integer.MAX_VALUE - 7, 1), 0);
        due("all bits", x.joined(-1, 1), 6);
        due("all bits but 31", x.joined(Integer.MAX_VALUE, 1), 6);
        due("bit 31 and 1", x.joined(Integer.MIN_VALUE | 2, 1), 2);
        MoorStones most = told("row hhhhhh;row hhhhhh;row hhhhhh;row hhhhhb;", 4);
        due("bit 24", most.joined(1 << 24, 1), 0);
        due("bits 24 to 31", most.joined(-1 << 24, 1), 0);
        due("what -1", x.joined(1, -1), BAD);
        due("what 2", x.joined(1, 2), BAD);
    }

    /** "STATE: more than 10 CELLS of BOG" */
    private static void joinedTenOfBog() {
        MoorStones ten = told("row bbbbb;row bbbbb;", 2);
        due("ten, all of them", ten.joined(1023, 0), 10);
        due("ten, all of them", ten.joined(-1, 1), 1023);
        MoorStones eleven = told("row bbbbbb;row bbbbbh;", 2);
        due("eleven", eleven.joined(1, 0), STATE);
        due("eleven, no BOG among them", eleven.joined(1 << 11, 0), STATE);
        due("eleven, none", eleven.joined(0, 1), STATE);
        due("eleven, BAD first", eleven.joined(0, 2), BAD);
        due("eleven, BAD first", eleven.joined(0, -1), BAD);
        MoorStones laid = told("row bbbbbb;row bbbbbh;row hhhhhh;walker 12 13;", 4);
        due("eleven", laid.joined(1, 0), STATE);
        due("one STONE is laid", laid.passes(0, 10), 1);
        due("ten NOW", laid.joined(1, 0), 1);
        due("as told again", laid.anew(), 1);
        due("eleven NOW", laid.joined(1, 0), STATE);
        due("24", told(MIRE, 4).joined(1, 1), STATE);
    }

    /** "of several sets the least (bits of CELLS)": behind the fewest */
    private static void joinedLeastOfSeveral() {
        MoorStones x = told("row hbbh;", 1);
        due("1 or 2", x.joined(9, 1), 2);
        due("how many", x.joined(9, 0), 1);
        MoorStones y = told("row hbbbbh;", 1);
        // 1 and 3, 2 and 3, 2 and 4
        due("two", y.joined(33, 1), 10);
        MoorStones z = told("row hbbbbh;row bbbbbb;", 2);
        due("two: over 1 and 3 as well", z.joined(33, 1), 10);
        MoorStones w = told("row bbbb;row bbbb;row hhhh;row hbbh;", 4);
        due("none is the fewest: over others that bear", w.joined(1 << 12 | 1 << 15, 1), 0);
        MoorStones fewest = told("row hbbbbh;row hbbhbh;", 2);
        due("one great CELL ahead of two small ones", fewest.joined(1 | 32, 0), 1);
        due("it is 7 or 8: 7", fewest.joined(1 | 32, 1), 1 << 7);
    }

    /** "one with another, and bear": all of many, and over CELLS that are none of them */
    private static void joinedAllBear() {
        MoorStones corners = told("row hbh;row bbb;row hbh;", 3);
        due("the corners are joined", corners.joined(1 | 4 | 64 | 256, 0), 0);
        due("and the middle", corners.joined(1 | 4 | 16 | 64 | 256, 1), 16 | 2);
        due("two of three are not enough", told("row hhbbbh;", 1).joined(1 | 2 | 32, 0), 1);
        due("all that there are", told("row hbh;", 1).joined(7, 1), 2);
    }

    // ---- likes, by turns, apart

    /** "the CELL of BOG in which a STONE makes a WALKER's WAY shortest" */
    private static void likesShortest() {
        // 2 makes it two STEPS; 1 and 3 leave it at four, round about
        MoorStones x = told("row hbbbh;row hbhbh;walker 0 4;walker 4 0;", 4);
        due("it has a WAY", x.steps(0, 4), 4);
        due("likes", x.likes(0), 2);
        due("likes, back", x.likes(1), 2);
        due("the start is BOG", told("row bbh;walker 0 2;", 2).likes(0), 0);
        due("the goal is BOG", told("row hbb;walker 0 2;", 2).likes(0), 2);
        due("the greatest CELL", told("row hhhhhh;row bbbbbb;row hhhhhh;row hhhhhb;walker 0 23;", 5).likes(0), 23);
    }

    /** "(no WAY is longer than any" */
    private static void likesNoWayIsLonger() {
        // 11 and 17 make a WAY of nine STEPS, by 5 3 1 13 14 8 6; 0 is the least CELL of BOG, and makes none
        MoorStones x = told("row bhbhhh;row hbhbbb;row bhhbbb;row hbbbbh;walker 23 18;", 5);
        due("no WAY", x.steps(23, 18), NONE);
        due("the longest is shorter than none", x.likes(0), 11);
        MoorStones y = told("row hbbbbb;row hbbhhh;row hbbbbb;walker 0 11;walker 11 0;", 5);
        due("7 and 8 make one; 1 to 5 none", y.likes(0), 7);
        due("7 and 8 make one; 1 to 5 none", y.likes(1), 7);
    }

    /** "none by any: the least CELL of BOG)" */
    private static void likesNoneByAny() {
        due("far off", told("row hbbbbh;walker 0 5;", 2).likes(0), 1);
        due("far off, 0 is BOG", told("row bbbbbh;walker 0 5;", 2).likes(0), 0);
        due("start and goal are BOG", told("row bhb;walker 0 2;", 2).likes(0), 0);
        due("all is BOG", told(MIRE + "walker 23 22;", 5).likes(0), 0);
    }

    /** "of several the least" */
    private static void likesLeastOfSeveral() {
        due("no shorter by any", told("row hhbb;walker 0 1;", 2).likes(0), 2);
        due("1 or 2", told("row hbbh;walker 3 0;", 2).likes(0), 1);
        due("the only BOG", told("row hh;row hb;walker 0 1;", 3).likes(0), 3);
        due("the only BOG is the greatest CELL",
            told("row hhhhhh;row hhhhhh;row hhhhhh;row hhhhhb;walker 0 1;", 5).likes(0), 23);
    }

    /** "NONE: no BOG" */
    private static void likesNoBog() {
        due("HEATHER", told("row hh;walker 0 1;", 2).likes(0), NONE);
        due("STONES", told("row ss;walker 0 1;sink 1;", 3).likes(0), NONE);
        MoorStones x = told("row hhb;walker 0 1;", 2);
        due("one", x.likes(0), 2);
        due("passes", x.passes(0, 2), 1);
        due("none", x.likes(0), NONE);
        due("no WALKER", x.likes(1), BAD);
        due("no WALKER", x.likes(-1), BAD);
    }

    /** "how many STONES are laid till then (0: they have one)" */
    private static void byTurnsNought() {
        due("no BOG", told("row hh;", 1).byTurns(0, 1), 0);
        due("BOG between", told("row hbh;", 1).byTurns(2, 0), 0);
        due("the last BOG", told("row hb;", 1).byTurns(0, 1), 1);
        due("the last BOG", told("row hb;", 1).byTurns(1, 0), 1);
    }

    /** By turns for one and the same: it has a WAY (of no STEPS) as soon as it bears. */
    private static void byTurnsOneAndTheSame() {
        MoorStones x = told("row hsb;", 1);
        due("HEATHER", x.byTurns(0, 0), 0);
        due("a STONE", x.byTurns(1, 1), 0);
        due("BOG", x.byTurns(2, 2), 1);
    }

    /** "STATE: more than 8 CELLS of BOG" */
    private static void byTurnsEightOfBog() {
        MoorStones eight = told("row hhhhh;row bbbbh;row hhbbb;row bhhhh;", 4);
        due("eight", eight.now(1), 8);
        due("eight, a WAY there is", eight.byTurns(0, 19), 0);
        due("eight, to BOG", eight.byTurns(0, 15), 1);
        due("eight and the other one wastes a turn", told("row bbbb;row bbbb;", 2).byTurns(0, 1), 3);
        MoorStones nine = told("row bbb;row bbb;row bbb;", 3);
        due("nine", nine.byTurns(0, 8), STATE);
        due("nine, one and the same", nine.byTurns(0, 0), STATE);
        due("nine, BAD first", nine.byTurns(0, 9), BAD);
        due("nine, BAD first", nine.byTurns(-1, 0), BAD);
        MoorStones laid = told("row hhbbb;row bbbbb;row bhhhh;walker 0 1;", 4);
        due("nine, a WAY there is", laid.byTurns(0, 1), STATE);
        due("one STONE is laid", laid.passes(0, 10), 1);
        due("eight NOW", laid.byTurns(0, 1), 0);
        due("24", told(MIRE, 4).byTurns(0, 1), STATE);
    }

    /** "the first one so that two CELLS have a WAY as soon as can be, the other one so that they have one as late" */
    private static void byTurnsSoonAndLate() {
        due("either will do", told("row hbbh;", 1).byTurns(0, 3), 1);
        due("the first one takes the middle", told("row hbbbh;", 1).byTurns(0, 4), 1);
        due("two must bear: the other one lays elsewhere", told("row hbbbbh;", 1).byTurns(0, 5), 3);
        due("both ends, none elsewhere", told("row bb;", 1).byTurns(0, 1), 2);
        due("both ends, one elsewhere", told("row bbh;", 1).byTurns(0, 1), 2);
        due("both ends, a BOG elsewhere", told("row bbb;", 1).byTurns(0, 1), 3);
        due("nothing is changed", told("row bbb;", 1).now(1), 3);
    }

    /** "NONE: one STEP joins them" */
    private static void apartOneStep() {
        MoorStones x = told("row hsh;row bhb;row hbb;", 3);
        due("one off", x.apart(0, 1), NONE);
        due("two off", x.apart(0, 2), NONE);
        due("two off, back", x.apart(2, 0), NONE);
        due("one off in the column", x.apart(1, 4), NONE);
        due("two off in the column", x.apart(0, 6), NONE);
        due("two STEPS", x.apart(0, 4), 1);
        due("two STEPS", x.apart(6, 1), 1);
        due("three STEPS", x.apart(6, 4), 1);
        due("one and the same", x.apart(0, 0), BAD);
        due("one and the same, BOG", x.apart(3, 3), BAD);
    }

    /** "or one does not bear" */
    private static void apartNotBearing() {
        MoorStones x = told("row hbbbhb;", 1);
        due("the first", x.apart(1, 0), NONE);
        due("the other", x.apart(0, 1), NONE);
        due("both, one off", x.apart(1, 2), NONE);
        due("both, far off", x.apart(1, 5), NONE);
        due("far off", x.apart(0, 5), NONE);
        due("both bear, no WAY", x.apart(0, 4), 0);
    }

    /** "the fewest CELLS that bear, not the two themselves, which must be BOG so that two CELLS have no WAY" */
    private static void apartFewestAndMost() {
        due("none: no WAY", told("row hbbh;", 1).apart(0, 3), 0);
        due("one of two ways", told("row hbhbh;", 1).apart(0, 4), 1);
        due("two between", told("row hhhh;", 1).apart(0, 3), 2);
        due("STONES, too", told("row sshs;", 1).apart(0, 3), 2);
        due("two in a column", told("row h;row h;row h;row h;", 4).apart(0, 3), 2);
        // four lead out of 0: 1 2 3 6; of 8: 2 5 6 7
        due("four", told("row hhh;row hhh;row hhh;", 3).apart(0, 8), 4);
        MoorStones x = told("row hhhh;", 1);
        due("two between", x.apart(3, 0), 2);
        due("nothing is changed", x.now(0), 4);
    }

    /** "(12 CELLS at most may bear beside the two, else STATE.)", "STATE (ahead of NONE)" */
    private static void apartTwelveMayBear() {
        MoorStones fourteen = told("row hhhh;row hhhh;row hhhh;row hhbb;", 4);
        due("14 bear, twelve beside the two", fourteen.apart(0, 11), 4);
        due("14 bear, twelve beside the two", fourteen.apart(11, 0), 4);
        due("14 bear, twelve beside two others", fourteen.apart(4, 13), 3);
        due("and one STEP", fourteen.apart(0, 1), NONE);
        due("and one STEP", fourteen.apart(12, 13), NONE);
        due("14 bear, 13 beside the one", fourteen.apart(0, 14), STATE);
        due("14 bear, 13 beside the other", fourteen.apart(14, 0), STATE);
        due("14 bear, 14 beside the two", fourteen.apart(14, 15), STATE);
        MoorStones fifteen = told("row hhhh;row hhss;row hhhh;row hhhb;", 4);
        due("15 bear, 13 beside the two", fifteen.apart(0, 11), STATE);
        due("ahead of one STEP", fifteen.apart(0, 1), STATE);
        due("ahead of one that does not bear", fifteen.apart(0, 15), STATE);
        due("behind BAD: one and the same", fifteen.apart(3, 3), BAD);
        due("behind BAD: no CELL", fifteen.apart(0, 16), BAD);
        due("behind BAD: no CELL", fifteen.apart(-1, 0), BAD);
        MoorStones thirteen = told("row hhhh;row hhhh;row hhhh;row hbbb;", 4);
        due("13 bear, twelve beside the one", thirteen.apart(0, 15), NONE);
        due("13 bear, 13 beside the two", thirteen.apart(13, 14), STATE);
        MoorStones twelve = told("row hhhh;row hhhh;row hhhh;row bbbb;", 4);
        due("12 bear, twelve beside the two", twelve.apart(13, 14), NONE);
        due("24", told(HEATH, 4).apart(0, 23), STATE);
        MoorStones laid = told("row hhhh;row hhhh;row hhhh;row hhbb;walker 0 1;", 5);
        due("one more bears", laid.passes(0, 15), 1);
        due("13 beside the two NOW", laid.apart(0, 11), STATE);
    }

    // ---- kinds, images

    /** "WALKER the STEPS of its WAY (0: none) (1)." */
    private static void rateWalker() {
        MoorStones x = told("row hhb;walker 0 1;walker 1 2;walker 2 0;", 4);
        due("a WAY", x.rate(0, 0), 1);
        due("trace", x.trace(), 1);
        due("none to BOG", x.rate(0, 1), 0);
        due("none from BOG", x.rate(0, 2), 0);
        due("trace", x.trace(), 3);
        due("the longest here", told("row hhhhhh;row bbbbbh;row bbbbbh;row hhhhhh;walker 0 18;", 5).rate(0, 0), 8);
    }

    /** "PILGRIM up, and how often it PASSED (10)." */
    private static void ratePilgrim() {
        MoorStones x = told("row hsbb;walker 0 1;walker 2 3;sink 2;", 4);
        due("never PASSED", x.rate(1, 0), 1);
        due("trace", x.trace(), 11);
        due("no WAY, never PASSED", x.rate(1, 1), 0);
        due("passes", x.passes(0, 2), 1);
        due("PASSED once", x.rate(1, 0), 2);
        due("passes", x.passes(0, 3), 1);
        due("its goal sank: no WAY, PASSED twice", x.rate(1, 0), 2);
        due("trace", x.trace(), 44);
    }

    /** "SHEPHERD up less how many STONES there are that it laid (100)": below 0, too */
    private static void rateShepherd() {
        MoorStones x = told("row hhbbbb;row bbbbbb;row bbbbbb;row bbbbbb;walker 0 1;", 5);
        due("none laid", x.rate(2, 0), 1);
        due("trace", x.trace(), 101);
        for (int c = 2; c < 24; c++) {
            due("passes", x.passes(0, c), 1);
            due("less", x.rate(2, 0), 2 - c);
        }
        due("at its least", x.rate(2, 0), -21);
        due("trace", x.trace(), 24 * 101);
        // one that sank is none that there is
        MoorStones z = told("row hhbhb;walker 0 1;walker 0 2;sink 1;", 4);
        due("0 lays in 2", z.passes(0, 2), 1);
        due("1 goes to it", z.passes(1, 4), 1);
        due("0's has sunk", z.rate(2, 0), 1);
        due("1 has no WAY, and laid one", z.rate(2, 1), -1);
    }

    /** "MONK twice up (1000).": up is what the PILGRIM does; "each once" */
    private static void rateMonk() {
        MoorStones x = told("row hhbb;walker 0 1;walker 2 3;", 3);
        due("twice one", x.rate(3, 0), 2);
        due("trace", x.trace(), 1011);
        due("twice nothing", x.rate(3, 1), 0);
        due("trace", x.trace(), 2022);
        due("passes", x.passes(0, 3), 1);
        due("twice two", x.rate(3, 0), 4);
        due("trace", x.trace(), 3033);
    }

    /** "THIEF up, and its number (10000).": up is what the SHEPHERD does; numbers 0 and 3 */
    private static void rateThief() {
        MoorStones x = told("row hhbbb;walker 0 1;walker 0 1;walker 0 1;walker 0 1;", 5);
        for (int k = 0; k < 4; k++) {
            due("number", x.rate(4, k), 1 + k);
            due("trace", x.trace(), 10101 * (k + 1));
        }
        due("passes", x.passes(3, 2), 1);
        due("passes", x.passes(0, 3), 1);
        due("passes", x.passes(0, 4), 1);
        due("less one laid", x.rate(4, 3), 3);
        due("less two laid", x.rate(4, 0), -1);
    }

    /** "CHILD up, and STONES for its two CELLS (100000).": up is what the WALKER does */
    private static void rateChild() {
        MoorStones x = told("row hhbb;walker 0 1;walker 2 3;walker 0 3;", 4);
        due("a WAY, no STONES", x.rate(5, 0), 1);
        due("trace", x.trace(), 100001);
        due("no WAY, two STONES", x.rate(5, 1), 2);
        due("no WAY, one STONE", x.rate(5, 2), 1);
        due("trace", x.trace(), 300003);
        due("passes", x.passes(0, 3), 1);
        due("PASSED and laid do not count", x.rate(5, 0), 1);
        due("the most", told(MIRE + "walker 0 23;", 5).rate(5, 0), 6);
    }

    /** "NO: BAD.": no KIND, no WALKER; no trace of it */
    private static void rateNo() {
        MoorStones x = told("row hh;walker 0 1;walker 1 0;", 3);
        int[] far = {Integer.MIN_VALUE, -1000000, -1, 6, 7, 10, 100, 1000, Integer.MAX_VALUE};
        for (int kind : far) {
            due("no KIND", x.rate(kind, 0), NO);
        }
        for (int k : new int[] {Integer.MIN_VALUE, -1, 2, 3, 4, Integer.MAX_VALUE}) {
            for (int kind = 0; kind <= 5; kind++) {
                due("no WALKER", x.rate(kind, k), NO);
            }
        }
        due("neither", x.rate(-1, -1), NO);
        due("trace", x.trace(), 0);
        due("no WALKERS", told("row hh;", 1).rate(0, 0), NO);
        due("NO itself", MoorStones.NO, -1000000);
    }

    /** "numbers in brackets are added to THE TRACE, 0 at first": as often as an object may be asked */
    private static void traceAtItsMost() {
        MoorStones x = new MoorStones();
        due("0 at first", x.trace(), 0);
        due("type row bb", x.type(0x726f77206262L, 6), 6);
        due("type ;walker", x.type(0x3b77616c6b6572L, 7), 13);
        due("type 0 1;", x.type(0x3020313bL, 4), 17);
        due("moor", x.moor(), 2);
        for (int i = 0; i < 506; i++) {
            due("rate", x.rate(5, 0), 2);
        }
        due("trace", x.trace(), 506L * 100001);
    }

    /** "IMAGES 0, 1 keep NOW (all CELLS, what they bear, who laid them, who PASSED how often)" */
    private static void imagesKeepNow() {
        for (int image = 0; image <= 1; image++) {
            MoorStones x = told("row hsbbb;walker 0 1;walker 1 0;sink 2;", 4);
            due("passes", x.passes(0, 2), 1);
            due("passes", x.passes(1, 4), 1);
            due("keep", x.keep(image), 3);
            due("passes", x.passes(0, 3), 1);
            dueAll("ground", ground(x), 0, 1, 2, 2, 2);
            due("back", x.back(image), 3);
            dueAll("all CELLS", ground(x), 0, 2, 2, 1, 2);
            dueAll("what they bear", cells(x, 1), 0, 1, 2, 0, 2);
            dueAll("who laid them", cells(x, 2), NONE, NONE, 0, NONE, 1);
            due("who PASSED", x.walker(0, 2), 1);
            due("who PASSED", x.walker(1, 2), 1);
            due("the other IMAGE is none", x.back(1 - image), STATE);
        }
    }

    /** "nothing else": THE TEXT, THE TRACE and the other IMAGE are none of it */
    private static void imagesNothingElse() {
        MoorStones x = told("row hhbb;walker 0 1;", 2);
        typeText(x, "row");
        due("rate", x.rate(0, 0), 1);
        due("keep", x.keep(0), 0);
        due("passes", x.passes(0, 2), 1);
        due("keep", x.keep(1), 1);
        typeText(x, " h;");
        due("rate", x.rate(1, 0), 2);
        due("back", x.back(0), 0);
        due("bytes", x.count(4), 6);
        due("trace", x.trace(), 12);
        due("the other IMAGE", x.back(1), 1);
        due("moor", x.moor(), 1);
    }

    /** "An IMAGE is kept: how many STONES", "All of that becomes as an IMAGE has it": as often as one likes */
    private static void imagesBackAgain() {
        MoorStones x = told("row hhbbbb;walker 0 1;", 2);
        due("keep 0", x.keep(0), 0);
        due("back at once", x.back(0), 0);
        for (int i = 0; i < 3; i++) {
            due("passes", x.passes(0, 2), 1);
            due("back", x.back(0), 0);
            due("PASSED", x.now(3), 0);
        }
        due("passes", x.passes(0, 5), 1);
        due("keep 0 anew", x.keep(0), 1);
        due("anew", x.anew(), 1);
        due("back", x.back(0), 1);
        due("by whom", x.cell(5, 2), 0);
        MoorStones most = told(MIRE.replace('b', 's'), 4);
        due("24 STONES", most.keep(1), 24);
        due("24 STONES", most.back(1), 24);
        due("image -1", x.keep(-1), BAD);
        due("image 2", x.keep(2), BAD);
        due("image -1", x.back(-1), BAD);
        due("image 2", x.back(2), BAD);
        due("STATE is behind BAD", new MoorStones().back(2), BAD);
    }

    /** An IMAGE of a moor without CELLS is one, too. */
    private static void imagesOfNoCells() {
        MoorStones x = new MoorStones();
        due("none was kept", x.back(0), STATE);
        due("none was kept", x.back(1), STATE);
        due("keep", x.keep(0), 0);
        due("back", x.back(0), 0);
        due("none was kept", x.back(1), STATE);
        due("keep", x.keep(1), 0);
        due("back", x.back(1), 0);
    }

    /** "(Read anew by moor(): NOW is as told, IMAGES are gone; THE TRACE stays.)" */
    private static void imagesGoneByMoor() {
        MoorStones x = told("row hsb;walker 0 1;sink 2;", 3);
        due("passes", x.passes(0, 2), 1);
        due("keep", x.keep(0), 2);
        due("keep", x.keep(1), 2);
        due("rate", x.rate(5, 0), 1);
        typeText(x, "row hsb;walker 0 1;sink 2;?");
        due("a FAULT", x.moor(), -36);
        due("IMAGES stay", x.back(0), 2);
        due("IMAGES stay", x.back(1), 2);
        due("clear", x.clear(), 27);
        typeText(x, "row hsb;walker 0 1;sink 2;");
        due("the same once more", x.moor(), 3);
        dueAll("NOW is as told", ground(x), 0, 2, 1);
        dueAll("NOW is as told", cells(x, 1), 0, 2, 0);
        dueAll("NOW is as told", cells(x, 2), NONE, NONE, NONE);
        due("nobody PASSED", x.now(3), 0);
        due("IMAGE 0 is gone", x.back(0), STATE);
        due("IMAGE 1 is gone", x.back(1), STATE);
        due("THE TRACE stays", x.trace(), 100001);
    }

    /** "NOW is as told (IMAGES stay)" */
    private static void imagesStayByAnew() {
        MoorStones x = told("row hsb;walker 0 1;sink 1;", 3);
        due("passes", x.passes(0, 2), 1);
        due("keep", x.keep(1), 1);
        due("rate", x.rate(0, 0), 0);
        typeText(x, "row");
        due("anew", x.anew(), 1);
        due("back", x.back(1), 1);
        due("by whom", x.cell(2, 2), 0);
        due("what sank", x.cell(1, 0), 1);
        due("THE TRACE stays", x.trace(), 1);
        due("THE TEXT stays", x.count(4), 3);
        due("none was kept there", x.back(0), STATE);
    }

    /** "at most 512 calls": the dearest calls, about as often as can be, come to an end and answer alike */
    private static void callsAtTheirMost() {
        MoorStones joined = told("row bbbbb;row bbbbb;", 2);
        MoorStones turns = told("row bbbb;row bbbb;", 2);
        MoorStones apart = told("row hhhh;row hhhh;row hhhh;row hhbb;", 4);
        MoorStones days = told(MIRE.replace("row bb", "row hh") + times("walker 0 1;", 4) + "sink 1;", 9);
        for (int i = 0; i < 490; i++) {
            due("joined", joined.joined(-1, 1), 1023);
            due("byTurns", turns.byTurns(0, 1), 3);
            due("apart", apart.apart(0, 11), 4);
            due("days", days.days(9), i == 0 ? 20 : 36);
        }
    }

    private static String times(String part, int n) {
        return part.repeat(n);
    }
}
