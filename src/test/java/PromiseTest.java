/**
 * Every promise by its number: ordinary inputs, the edges that the document names, wrong inputs. What is due was
 * worked out by hand from the document.
 */
public final class PromiseTest extends Checks {
    public static void main(String[] args) {
        constants();
        promise1NewObject();
        promise2Type();
        promise3Clear();
        promise4Moor();
        promise4Faults();
        promise5Cell();
        promise6Walker();
        promise7Passes();
        promise7WayOfTheMoorAhead();
        promise8Days();
        promise9Now();
        promise10Anew();
        promise11Steps();
        promise12Way();
        promise13Stones();
        promise14Joined();
        promise15Likes();
        promise16ByTurns();
        promise17Apart();
        promise18Rate();
        promise19Keep();
        promise20Back();
        promise21Count();
        promise22Trace();
        refusedCallsChangeNothing();
        objectsAreApart();
        end("all promises hold");
    }

    private static void constants() {
        due("BAD", MoorStones.BAD, -1);
        due("STATE", MoorStones.STATE, -2);
        due("FULL", MoorStones.FULL, -3);
        due("NONE", MoorStones.NONE, -9);
        due("NO", MoorStones.NO, -1000000);
    }

    private static void promise1NewObject() {
        MoorStones x = new MoorStones();
        for (int what = 0; what <= 4; what++) {
            due("new: count " + what, x.count(what), 0);
        }
        for (int what = 0; what <= 3; what++) {
            due("new: now " + what, x.now(what), 0);
        }
        due("new: trace", x.trace(), 0);
        due("new: cell", x.cell(0, 0), BAD);
        due("new: walker", x.walker(0, 0), BAD);
        due("new: passes", x.passes(0, 0), BAD);
        due("new: steps", x.steps(0, 0), BAD);
        due("new: way", x.way(0, 0, 0), BAD);
        due("new: stones", x.stones(0, 0), BAD);
        due("new: byTurns", x.byTurns(0, 0), BAD);
        due("new: apart", x.apart(0, 1), BAD);
        due("new: likes", x.likes(0), BAD);
        due("new: rate", x.rate(0, 0), NO);
        due("new: joined", x.joined(-1, 0), 0);
        due("new: joined", x.joined(-1, 1), 0);
        due("new: days", x.days(9), 0);
        due("new: anew", x.anew(), 0);
        due("new: clear", x.clear(), 0);
        due("new: back 0", x.back(0), STATE);
        due("new: back 1", x.back(1), STATE);
        due("new: keep", x.keep(0), 0);
        due("new: back", x.back(0), 0);
        due("new: back 1", x.back(1), STATE);
        due("new: moor", x.moor(), 0);
        due("new: back behind moor()", x.back(0), STATE);
    }

    private static void promise2Type() {
        MoorStones x = new MoorStones();
        due("type 0", x.type('r', 0), BAD);
        due("type 9", x.type('r', 9), BAD);
        due("type -1", x.type('r', -1), BAD);
        due("type least int", x.type('r', Integer.MIN_VALUE), BAD);
        due("type most int", x.type('r', Integer.MAX_VALUE), BAD);
        due("count", x.count(4), 0);
        // "row " and "hb;", with other bytes above those that count
        due("type 4", x.type(0x7878787800000000L | 'r' << 24 | 'o' << 16 | 'w' << 8 | ' ', 4), 4);
        due("type 3", x.type(-1L << 24 | 'h' << 16 | 'b' << 8 | ';', 3), 7);
        due("moor", x.moor(), 1);
        dueAll("ground", ground(x), 0, 1);
        for (int i = 1; i <= 37; i++) {
            due("type 8", x.type(0x2020202020202020L, 8), 8 * i);
        }
        due("type 5 to 296", x.type(0x2020202020L, 5), FULL);
        due("type 8 to 296", x.type(0x2020202020202020L, 8), FULL);
        due("type 0 to 296", x.type(0x20L, 0), BAD);
        due("count", x.count(4), 296);
        due("type 4 to 296", x.type(0x20202020L, 4), 300);
        due("type 1 to 300", x.type(0x20L, 1), FULL);
        due("type 9 to 300", x.type(0x20L, 9), BAD);
        due("moor of 300 blanks", x.moor(), 0);
        due("count", x.count(0), 0);
        due("type 1", x.type(0xC3, 1), 1);
        due("byte 195 begins none", x.moor(), -10);
    }

    private static void promise3Clear() {
        MoorStones x = new MoorStones();
        due("clear", x.clear(), 0);
        typeText(x, "row hx;  ");
        due("clear", x.clear(), 9);
        due("count", x.count(4), 0);
        due("clear", x.clear(), 0);
        typeText(x, "row h;");
        due("moor", x.moor(), 1);
        due("clear behind moor", x.clear(), 0);
        typeText(x, "sink 3;");
        due("clear", x.clear(), 7);
        due("the moor stays", x.count(0), 1);
        due("sink stays", x.count(3), 0);
    }

    private static void promise4Moor() {
        MoorStones x = told(" row  hbs ;row\u0020sbh;sink3; walker 0 5 ;walker5 0;   ", 5);
        due("wide", x.count(0), 3);
        due("high", x.count(1), 2);
        due("walkers", x.count(2), 2);
        due("sink", x.count(3), 3);
        due("text", x.count(4), 0);
        dueAll("ground", ground(x), 0, 1, 2, 2, 1, 0);
        dueAll("bears", cells(x, 1), 0, 0, 3, 3, 0, 0);
        x.keep(0);
        typeText(x, "row h;row");
        due("moor", x.moor(), -19);
        due("text stays", x.count(4), 9);
        due("moor stays", x.count(0), 3);
        due("image stays", x.back(0), 2);
        typeText(x, " b;");
        due("moor", x.moor(), 2);
        due("wide", x.count(0), 1);
        due("high", x.count(1), 2);
        due("walkers", x.count(2), 0);
        due("sink", x.count(3), 0);
        dueAll("ground", ground(x), 0, 1);
        due("image is gone", x.back(0), STATE);
        due("keep 1", x.keep(1), 0);
        due("moor of no text", x.moor(), 0);
        due("the other image is gone, too", x.back(1), STATE);
        typeText(x, "row bsbsbs;row ssssss;sink 4;walker 0 1;?");
        due("moor", x.moor(), -50);
        due("clear", x.clear(), 41);
        typeText(x, "row hhhhhh;row hhhhhh;");
        due("moor", x.moor(), 2);
        due("nothing is left of a FAULT's text: heather", x.now(0), 12);
        due("sink", x.count(3), 0);
        due("walkers", x.count(2), 0);
        due("moor of no text", x.moor(), 0);
        due("wide", x.count(0), 0);
        due("high", x.count(1), 0);
        told("sink 4;", 1);
        MoorStones most = told("row hhhhhh;row bbbbbb;row ssssss;row hbshbs;walker 23 0;walker 0 23;walker 1 2;walker 9 10;sink 9;", 9);
        due("cells", most.now(0), 8);
        due("cells", most.cell(23, 1), 9);
        due("cells", most.cell(24, 1), BAD);
    }

    private static void promise4Faults() {
        fault("rowh;", 0);
        fault("row h", 5);
        fault("row h  ", 7);
        fault("row", 3);
        fault("row ", 4);
        fault("ro", 0);
        fault("row hx;", 4);
        fault("row hH;", 5);
        fault("row 5;", 4);
        fault("row ;", 4);
        fault("row row;", 4);
        fault("row sink;", 4);
        fault("row hhhhhhh;", 4);
        fault("row hh;row h;", 11);
        fault("row hh;row hhh;", 11);
        fault("row hh;row hh", 13);
        fault("row h;row h;row h;row h;row h;", 24);
        fault("row hh;walker 0 1;row hh;", 18);
        fault("row hh;sink 2;row hh;walker 0 4;", 30);
        fault("walker 0 1;", 7);
        fault("row hh;walker 0 2;", 16);
        fault("row hh;walker 2 0;", 14);
        fault("row hh;walker 1 1;", 16);
        fault("row hh;walker 0 1", 17);
        fault("row hh;walker 0", 15);
        fault("row hh;walker", 13);
        fault("row hh;walker;", 13);
        fault("row hh;walker 0;", 15);
        fault("row hh;walker 0 1 1;", 18);
        fault("row hh;walker 0 b;", 16);
        fault("row hh;walker 01;", 14);
        fault("row hh;walker 0 1;walker 0 1;walker 0 1;walker 0 1;walker 0 1;", 51);
        fault("sink 5;sink 5;", 7);
        fault("sink 0;sink 0;", 7);
        fault("sink 10;", 5);
        fault("sink 05;", 5);
        fault("sink 00;", 5);
        fault("sink 100;", 5);
        fault("sink 4294967297;", 5);
        fault("sink 5 5;", 7);
        fault("sink;", 4);
        fault("sink h;", 5);
        fault("sink 5x;", 6);
        fault("sinks 5;", 0);
        fault("sin 5;", 0);
        fault(";", 0);
        fault("row h;;", 6);
        fault("  5;", 2);
        fault("hbs;", 0);
        fault("Row h;", 0);
        fault("row h\t;", 5);
        fault("row h;\n", 6);
        fault("row h;\u0000", 6);
        fault("row h{;", 5);
        fault("row h`;", 5);
        fault("sink 5:", 6);
        fault("sink /;", 5);
        fault("row h;\u00ff", 6);
        fault("row h 5;", 6);
        fault("row h b;", 6);
        told("sink 9;", 1);
        told("sink0;row s;", 2);
        told("row b ; row s;", 2);
        told("row hh;walker1 0;", 2);
        told("row hh;walker 1   0  ;", 2);
    }

    private static void promise5Cell() {
        MoorStones x = told("row hsbh; walker 0 3; sink 2;", 3);
        dueAll("ground", ground(x), 0, 2, 1, 0);
        dueAll("bears", cells(x, 1), 0, 2, 0, 0);
        dueAll("laid", cells(x, 2), NONE, NONE, NONE, NONE);
        due("passes", x.passes(0, 2), 2);
        dueAll("ground", ground(x), 0, 2, 2, 0);
        dueAll("bears", cells(x, 1), 0, 1, 2, 0);
        dueAll("laid", cells(x, 2), NONE, NONE, 0, NONE);
        due("cell -1", x.cell(-1, 0), BAD);
        due("cell 4", x.cell(4, 0), BAD);
        due("cell what -1", x.cell(0, -1), BAD);
        due("cell what 3", x.cell(0, 3), BAD);
        due("cell most", x.cell(Integer.MAX_VALUE, 1), BAD);
        due("cell least", x.cell(Integer.MIN_VALUE, 2), BAD);
        MoorStones never = told("row hsbh; walker 0 3;", 2);
        due("passes", never.passes(0, 2), 2);
        dueAll("SINK 0 bears", cells(never, 1), 0, 0, 0, 0);
        dueAll("SINK 0 ground", ground(never), 0, 2, 2, 0);
        dueAll("SINK 0 laid", cells(never, 2), NONE, NONE, 0, NONE);
    }

    private static void promise6Walker() {
        MoorStones x = told("row hsbh;row hhbb;walker 0 3;walker 7 1;sink 2;", 5);
        due("from", x.walker(0, 0), 0);
        due("to", x.walker(0, 1), 3);
        due("from", x.walker(1, 0), 7);
        due("to", x.walker(1, 1), 1);
        due("passed", x.walker(0, 2), 0);
        due("laid", x.walker(0, 3), 0);
        due("passes", x.passes(0, 2), 2);
        due("passes", x.passes(0, 6), 2);
        due("passed", x.walker(0, 2), 2);
        due("laid", x.walker(0, 3), 2);
        due("passed", x.walker(1, 2), 0);
        due("laid", x.walker(1, 3), 0);
        due("walker 2", x.walker(2, 0), BAD);
        due("walker -1", x.walker(-1, 0), BAD);
        due("walker what 4", x.walker(0, 4), BAD);
        due("walker what -1", x.walker(0, -1), BAD);
    }

    private static void promise7Passes() {
        // 0 -> 1 -> 3 while 1 bears, then 0 -> 2 -> 3
        MoorStones x = told("row hsbh;walker 0 3;sink 1;", 3);
        due("no WALKER", x.passes(1, 2), BAD);
        due("no WALKER", x.passes(-1, 2), BAD);
        due("no CELL", x.passes(0, 4), BAD);
        due("no CELL", x.passes(0, -1), BAD);
        due("HEATHER", x.passes(0, 0), STATE);
        due("a STONE", x.passes(0, 1), STATE);
        due("passes", x.passes(0, 2), 2);
        dueAll("ground", ground(x), 0, 1, 2, 0);
        dueAll("bears", cells(x, 1), 0, 0, 1, 0);
        dueAll("laid", cells(x, 2), NONE, NONE, 0, NONE);
        due("passes", x.passes(0, 1), 2);
        dueAll("ground", ground(x), 0, 2, 1, 0);
        dueAll("laid, and nobody laid what sank", cells(x, 2), NONE, 0, NONE, NONE);
        due("laid", x.walker(0, 3), 1);
        due("passed", x.walker(0, 2), 2);
        // it starts from a STONE, which bears no less, and ends on one, which does; what sinks was no BOG ahead
        MoorStones y = told("row sbs;walker 0 2;sink 1;", 3);
        due("not where it will sink", y.passes(0, 2), STATE);
        due("passes", y.passes(0, 1), 1);
        dueAll("ground", ground(y), 2, 2, 1);
        due("no WAY now", y.passes(0, 2), STATE);
        MoorStones z = told("row hbbhb;walker 0 3;walker 0 1;walker 2 0;", 4);
        due("no WAY", z.passes(0, 1), STATE);
        due("no WAY to BOG", z.passes(1, 2), STATE);
        due("no WAY from BOG", z.passes(2, 1), STATE);
        due("nothing is changed", z.now(3), 0);
    }

    private static void promise7WayOfTheMoorAhead() {
        // 0 2 4 5 is the only WAY of three STEPS
        MoorStones x = told("row hshbsh;row bbbbbb;walker 0 5;sink 3;", 4);
        dueAll("way", way(x, 0, 5), 0, 2, 4, 5);
        due("passes", x.passes(0, 11), 3);
        dueAll("bears: what is not stepped on keeps", cells(x, 1), 0, 3, 0, 0, 2, 0, 0, 0, 0, 0, 0, 3);
        MoorStones y = told("row hsbsbs;walker 0 5;sink 1;", 3);
        dueAll("way", way(y, 0, 5), 0, 1, 3, 5);
        due("passes", y.passes(0, 2), 3);
        dueAll("all that it stepped on sank", ground(y), 0, 1, 2, 1, 1, 1);
    }

    private static void promise8Days() {
        MoorStones x = told("row hsbh;walker 0 3;walker 0 2;sink 1;", 4);
        due("days 0", x.days(0), BAD);
        due("days 10", x.days(10), BAD);
        due("days -1", x.days(-1), BAD);
        // WALKER 0 goes 0 1 3 and lays in 2 (the only BOG); WALKER 1 goes 0 2, which sinks, and lays in 1
        due("days 1", x.days(1), 0);
        dueAll("ground", ground(x), 0, 2, 1, 0);
        dueAll("laid", cells(x, 2), NONE, 1, NONE, NONE);
        // the same again
        due("days 2", x.days(2), 0);
        due("passed", x.walker(0, 2), 3);
        due("passed", x.walker(1, 2), 3);
        // no BOG to lay in: both can't, each day
        MoorStones full = told("row hhh;walker 0 2;walker 2 0;", 3);
        due("days 9", full.days(9), 18);
        due("passed", full.now(3), 0);
        // no WAY: never
        MoorStones cut = told("row hbbh;walker 0 3;", 2);
        due("days 3", cut.days(3), 3);
        due("bog", cut.now(1), 2);
        // it likes what is BOG ahead of its going, not the 1 that sinks while it goes; the next one lays there
        MoorStones ahead = told("row hsbbh;walker 0 1;walker 0 4;sink 1;", 4);
        due("days 1", ahead.days(1), 0);
        dueAll("ground", ground(ahead), 0, 2, 1, 1, 0);
        dueAll("laid", cells(ahead, 2), NONE, 1, NONE, NONE, NONE);
        MoorStones one = told("row hsbbh;walker 0 1;sink 1;", 3);
        due("days 1", one.days(1), 0);
        dueAll("ground", ground(one), 0, 1, 2, 1, 0);
        due("days 1: its goal is BOG now", one.days(1), 1);
        // no WALKERS
        due("days without WALKERS", told("row hbh;", 1).days(9), 0);
        // one lays all the BOG there is; from then on nobody can
        MoorStones all = told("row hbh;walker 0 2;", 2);
        due("days 9", all.days(9), 8);
        due("passed", all.now(3), 1);
    }

    private static void promise9Now() {
        MoorStones x = told("row hsbhbb;walker 0 3;walker 3 0;sink 1;", 4);
        due("heather", x.now(0), 2);
        due("bog", x.now(1), 3);
        due("stones", x.now(2), 1);
        due("passed", x.now(3), 0);
        due("now 4", x.now(4), BAD);
        due("now -1", x.now(-1), BAD);
        due("passes", x.passes(0, 2), 2);
        due("passes", x.passes(1, 1), 2);
        due("passes", x.passes(0, 2), 2);
        due("heather", x.now(0), 2);
        due("bog", x.now(1), 3);
        due("stones", x.now(2), 1);
        due("passed", x.now(3), 3);
    }

    private static void promise10Anew() {
        MoorStones x = told("row hsbh;walker 0 3;walker 3 0;sink 2;", 4);
        due("anew", x.anew(), 0);
        due("passes", x.passes(0, 2), 2);
        due("passes", x.passes(1, 2), STATE);
        due("keep", x.keep(1), 2);
        due("rate", x.rate(1, 0), 3);
        due("anew", x.anew(), 1);
        dueAll("ground", ground(x), 0, 2, 1, 0);
        dueAll("bears", cells(x, 1), 0, 2, 0, 0);
        dueAll("laid", cells(x, 2), NONE, NONE, NONE, NONE);
        due("passed", x.walker(0, 2), 0);
        due("anew", x.anew(), 0);
        due("trace stays", x.trace(), 11);
        due("image stays", x.back(1), 2);
        dueAll("bears", cells(x, 1), 0, 1, 2, 0);
        due("passed", x.now(3), 1);
        due("anew", x.anew(), 1);
    }

    private static void promise11Steps() {
        MoorStones x = told("row hhb;row hbb;row bbb;row hsb;", 4);
        due("one off", x.steps(0, 1), 1);
        due("a row does not run into the next", x.steps(1, 3), 2);
        due("one off in the column", x.steps(0, 3), 1);
        due("two off, BOG between", x.steps(3, 9), 1);
        due("three off in the column", x.steps(0, 9), 2);
        due("not aslant", x.steps(1, 10), 4);
        due("one and the same", x.steps(10, 10), 0);
        due("one and the same, BOG", x.steps(4, 4), NONE);
        due("to BOG", x.steps(0, 2), NONE);
        due("from BOG", x.steps(2, 0), NONE);
        due("no CELL", x.steps(12, 0), BAD);
        due("no CELL", x.steps(0, 12), BAD);
        due("no CELL", x.steps(-1, 0), BAD);
        due("no CELL", x.steps(0, -1), BAD);
        due("three off in a row", told("row hbbh;", 1).steps(0, 3), NONE);
        due("two off in a row", told("row hbhh;", 1).steps(0, 3), 2);
        MoorStones all = told("row hhhhhh;row hhhhhh;row hhhhhh;row hhhhhh;", 4);
        due("corner to corner", all.steps(0, 23), 5);
    }

    private static void promise12Way() {
        // from 0 to 5 in a row of six: 0 1 3 5 is ahead of 0 2 3 5 and 0 2 4 5
        MoorStones x = told("row hhhhhh;", 1);
        dueAll("way", way(x, 0, 5), 0, 1, 3, 5);
        dueAll("way back", way(x, 5, 0), 5, 3, 1, 0);
        due("behind the last", x.way(0, 5, 4), -5);
        due("far behind", x.way(0, 5, Integer.MAX_VALUE), -5);
        due("i -1", x.way(0, 5, -1), BAD);
        due("i least", x.way(0, 5, Integer.MIN_VALUE), BAD);
        due("no CELL", x.way(0, 6, 0), BAD);
        due("no CELL", x.way(-1, 5, 0), BAD);
        due("one and the same", x.way(2, 2, 0), 2);
        due("one and the same", x.way(2, 2, 1), -5);
        MoorStones y = told("row hbbhh;", 1);
        due("no WAY", y.way(0, 3, 0), NONE);
        due("no WAY", y.way(0, 3, 9), NONE);
        due("no WAY, i -1", y.way(0, 3, -1), BAD);
        due("BOG itself", y.way(1, 1, 0), NONE);
        // down first is greater than right first; the fewest STEPS count ahead of that
        MoorStones z = told("row hhh;row hhh;row hhh;", 3);
        dueAll("way", way(z, 0, 8), 0, 2, 8);
        dueAll("way", way(z, 8, 0), 8, 2, 0);
        dueAll("way", way(z, 0, 4), 0, 1, 4);
        MoorStones w = told("row hbh;row hhh;row hhh;", 3);
        dueAll("way", way(w, 0, 4), 0, 3, 4);
        dueAll("way", way(w, 3, 2), 3, 0, 2);
    }

    private static void promise13Stones() {
        MoorStones x = told("row hbbbbh;", 1);
        due("two must bear", x.stones(0, 5), 2);
        due("the other way round", x.stones(5, 0), 2);
        due("one and the same", x.stones(0, 0), 0);
        due("one and the same, BOG", x.stones(1, 1), 1);
        due("BOG itself counts", x.stones(1, 2), 2);
        due("HEATHER and BOG", x.stones(0, 2), 1);
        due("from BOG by HEATHER", x.stones(2, 0), 1);
        due("three", x.stones(1, 5), 2);
        due("no CELL", x.stones(6, 0), BAD);
        due("no CELL", x.stones(0, -1), BAD);
        MoorStones y = told("row hbbb;row bbbb;row bbbb;row bbbh;", 4);
        due("three between the corners", y.stones(0, 15), 3);
        due("all is BOG", told("row bbbbbb;row bbbbbb;row bbbbbb;row bbbbbb;", 4).stones(0, 23), 6);
        due("nothing is changed", y.now(1), 14);
        due("a WAY there is", told("row hbh;", 1).stones(0, 2), 0);
        // straight on it costs 2 and 4; over 6 and 8 it costs 10 alone
        MoorStones round = told("row hbbbbh;row hbhbbh;", 2);
        due("round about", round.stones(0, 5), 1);
        due("round about", round.stones(5, 0), 1);
    }

    private static void promise14Joined() {
        MoorStones x = told("row hbbh;row bbbb;row hbbh;", 3);
        due("what 2", x.joined(1, 2), BAD);
        due("what -1", x.joined(1, -1), BAD);
        due("none", x.joined(0, 0), 0);
        due("none", x.joined(0, 1), 0);
        due("one that bears", x.joined(1, 0), 0);
        due("one of BOG", x.joined(2, 0), 1);
        due("one of BOG", x.joined(2, 1), 2);
        due("two", x.joined(1 | 8, 0), 1);
        due("two: 1 is less than 2", x.joined(1 | 8, 1), 2);
        due("two, joined by two off", x.joined(1 | 1 << 8, 1), 0);
        due("four", x.joined(1 | 8 | 1 << 8 | 1 << 11, 0), 1);
        due("four", x.joined(1 | 8 | 1 << 8 | 1 << 11, 1), 2);
        due("those that there are not", x.joined(-1 << 12 | 1, 0), 0);
        due("all", x.joined(-1, 0), 8);
        due("all", x.joined(-1, 1), 0b011011110110);
        MoorStones ten = told("row hbbbbb;row hbbbbb;", 2);
        due("ten of BOG", ten.joined(1 | 32, 0), 3);
        due("ten of BOG: 1 3 5 is less than 2 3 5 and 2 4 5", ten.joined(1 | 32, 1), 2 | 8 | 32);
        MoorStones y = told("row bbbbbb;row bbbbbh;", 2);
        due("eleven of BOG", y.joined(1 << 11, 0), STATE);
        due("eleven of BOG, none", y.joined(0, 1), STATE);
        due("eleven of BOG, what 2", y.joined(0, 2), BAD);
        // joined over a CELL that bears and is none of them
        due("over others", told("row hbhbh;", 1).joined(1 | 16, 0), 0);
        // the fewest count ahead of the least
        due("fewest first", told("row hbbbbh;row hbbhbh;", 2).joined(1 | 32, 0), 1);
        due("nothing is changed", x.now(1), 8);
    }

    private static void promise15Likes() {
        MoorStones x = told("row hbbbh;walker 0 4;walker 4 3;walker 1 4;", 4);
        due("one makes a WAY", x.likes(0), 2);
        due("its own goal", x.likes(1), 3);
        due("none by any", x.likes(2), 1);
        due("no WALKER", x.likes(3), BAD);
        due("no WALKER", x.likes(-1), BAD);
        due("no BOG", told("row hhh;walker 0 2;", 2).likes(0), NONE);
        // shorter than it is: 0 1 2 5 8 ... by BOG in the middle
        MoorStones y = told("row hhbh;row hbbh;row hhhh;walker 0 3;walker 0 11;", 5);
        due("steps are 2 with any", y.likes(0), 2);
        due("of several the least", y.likes(1), 2);
        MoorStones z = told("row hhhbbh;row hbbbbb;row hbbbbh;walker 0 5;", 4);
        due("no WAY yet", z.steps(0, 5), NONE);
        due("the least of 3 and 4", z.likes(0), 3);
        due("nothing is changed", z.now(1), 11);
        MoorStones shorter = told("row hbbbh;row bbbbb;row hbhbh;walker 0 4;", 4);
        due("it has a WAY", shorter.steps(0, 4), 4);
        due("2 makes it 2, 1 and 3 don't", shorter.likes(0), 2);
    }

    private static void promise16ByTurns() {
        MoorStones x = told("row hbbbh;", 1);
        due("the middle", x.byTurns(0, 4), 1);
        due("it has a WAY", x.byTurns(0, 0), 0);
        due("BOG itself", x.byTurns(1, 1), 1);
        due("to BOG", x.byTurns(0, 1), 1);
        due("no CELL", x.byTurns(0, 5), BAD);
        due("no CELL", x.byTurns(-1, 0), BAD);
        // 1 2 3 4 are BOG: two must bear, at least one of each two that follow; the other one wastes a turn
        MoorStones y = told("row hbbbbh;", 1);
        due("soon and late", y.byTurns(0, 5), 3);
        due("two of BOG", told("row bb;", 1).byTurns(0, 1), 2);
        due("both and more of BOG", told("row bbb;", 1).byTurns(0, 2), 3);
        due("eight of BOG, three must bear", told("row bbb;row bbb;row bbh;", 3).byTurns(0, 8), 3);
        MoorStones nine = told("row bbb;row bbb;row bbb;", 3);
        due("nine of BOG", nine.byTurns(0, 8), STATE);
        due("nine of BOG, one and the same", nine.byTurns(4, 4), STATE);
        due("nine of BOG, no CELL", nine.byTurns(0, 9), BAD);
        due("a WAY there is", told("row hbh;", 1).byTurns(0, 2), 0);
    }

    private static void promise17Apart() {
        MoorStones x = told("row hhhh;", 1);
        due("both between", x.apart(0, 3), 2);
        due("one STEP", x.apart(0, 1), NONE);
        due("one STEP, two off", x.apart(0, 2), NONE);
        due("one and the same", x.apart(1, 1), BAD);
        due("no CELL", x.apart(0, 4), BAD);
        due("no CELL", x.apart(-1, 0), BAD);
        MoorStones y = told("row hbbhb;", 1);
        due("no WAY", y.apart(0, 3), 0);
        due("one does not bear", y.apart(0, 1), NONE);
        due("one does not bear", y.apart(1, 0), NONE);
        due("none bears", y.apart(1, 4), NONE);
        MoorStones twelve = told("row hhhhhh;row hhhhhb;row bbbhhh;", 3);
        due("twelve and the two", twelve.now(0), 14);
        due("twelve and the two", twelve.apart(0, 1), NONE);
        due("four near 0, three near 17", twelve.apart(0, 17), 3);
        due("thirteen and the one", twelve.apart(0, 11), STATE);
        due("thirteen and the one", twelve.apart(11, 0), STATE);
        MoorStones thirteen = told("row hhhhhh;row hhhhhs;row bbbhhh;", 3);
        due("thirteen", thirteen.apart(0, 17), STATE);
        due("thirteen, one STEP", thirteen.apart(0, 1), STATE);
        due("thirteen, one and the same", thirteen.apart(0, 0), BAD);
        due("nothing is changed", thirteen.now(1), 3);
        due("a STONE is as HEATHER", told("row hssh;", 1).apart(0, 3), 2);
        // one place through which all must go
        MoorStones narrow = told("row hhbbbb;row bhbhhh;", 2);
        due("one will do", narrow.apart(0, 11), 1);
        due("one will do, though two are near 11", narrow.apart(11, 0), 1);
        due("one will do, seen from the middle", narrow.apart(7, 0), 1);
        due("one step and one that does not bear", narrow.apart(2, 0), NONE);
        due("two, though three are near 2", told("row hhhhhh;row bbbbbb;row bbhbbb;", 3).apart(2, 5), 2);
    }

    private static void promise18Rate() {
        MoorStones x = told("row hsbbh;row bbbbb;walker 0 1;walker 0 4;walker 3 2;sink 0;", 6);
        due("passes", x.passes(0, 2), 1);
        due("passes", x.passes(0, 9), 1);
        due("passes", x.passes(1, 8), 2);
        due("WALKER", x.rate(0, 0), 1);
        due("PILGRIM", x.rate(1, 0), 3);
        due("SHEPHERD", x.rate(2, 0), -1);
        due("MONK", x.rate(3, 0), 6);
        due("THIEF", x.rate(4, 0), -1);
        due("CHILD", x.rate(5, 0), 1);
        due("WALKER", x.rate(0, 1), 2);
        due("PILGRIM", x.rate(1, 1), 3);
        due("SHEPHERD", x.rate(2, 1), 1);
        due("MONK", x.rate(3, 1), 6);
        due("THIEF", x.rate(4, 1), 2);
        due("CHILD", x.rate(5, 1), 2);
        due("no WAY: WALKER", x.rate(0, 2), 0);
        due("no WAY: THIEF", x.rate(4, 2), 2);
        due("no WAY: CHILD", x.rate(5, 2), 1);
        long trace = x.trace();
        due("no KIND", x.rate(6, 0), NO);
        due("no KIND", x.rate(-1, 0), NO);
        due("no WALKER", x.rate(0, 3), NO);
        due("no WALKER", x.rate(5, -1), NO);
        due("what is refused leaves no trace", x.trace(), trace);
    }

    private static void promise19Keep() {
        MoorStones x = told("row hsbh;walker 0 3;sink 2;", 3);
        due("keep 2", x.keep(2), BAD);
        due("keep -1", x.keep(-1), BAD);
        due("keep 0", x.keep(0), 1);
        due("passes", x.passes(0, 2), 2);
        due("keep 1", x.keep(1), 2);
        due("keep changes nothing", x.now(2), 2);
        due("back 0", x.back(0), 1);
        due("back 1", x.back(1), 2);
        due("an IMAGE is kept over another", x.keep(0), 2);
        due("anew", x.anew(), 1);
        due("back 0", x.back(0), 2);
    }

    private static void promise20Back() {
        MoorStones x = told("row hsbhb;walker 0 3;walker 3 0;sink 2;", 4);
        due("back 2", x.back(2), BAD);
        due("back -1", x.back(-1), BAD);
        due("none was kept", x.back(0), STATE);
        due("passes", x.passes(0, 2), 2);
        due("keep", x.keep(1), 2);
        due("none was kept there", x.back(0), STATE);
        due("passes", x.passes(1, 4), 2);
        due("passed", x.now(3), 2);
        dueAll("ground", ground(x), 0, 1, 2, 0, 2);
        typeText(x, "row");
        due("rate", x.rate(0, 0), 2);
        due("back", x.back(1), 2);
        dueAll("ground", ground(x), 0, 2, 2, 0, 1);
        dueAll("bears", cells(x, 1), 0, 1, 2, 0, 0);
        dueAll("laid", cells(x, 2), NONE, NONE, 0, NONE, NONE);
        due("passed", x.walker(0, 2), 1);
        due("passed", x.walker(1, 2), 0);
        due("the text is none of it", x.count(4), 3);
        due("the trace is none of it", x.trace(), 1);
        due("passes", x.passes(1, 4), 2);
        due("an IMAGE does not change with NOW", x.back(1), 2);
        dueAll("bears", cells(x, 1), 0, 1, 2, 0, 0);
    }

    private static void promise21Count() {
        MoorStones x = told("row hs;row bb;row hh;walker 0 3;sink 7;", 5);
        typeText(x, "si");
        due("wide", x.count(0), 2);
        due("high", x.count(1), 3);
        due("walkers", x.count(2), 1);
        due("sink", x.count(3), 7);
        due("bytes", x.count(4), 2);
        due("count 5", x.count(5), BAD);
        due("count -1", x.count(-1), BAD);
    }

    private static void promise22Trace() {
        long[] bodies = {1, 11, 101, 1011, 10101, 100001};
        MoorStones x = told("row hhb;walker 0 1;", 2);
        long all = 0;
        for (int kind = 0; kind < 6; kind++) {
            x.rate(kind, 0);
            all += bodies[kind];
            due("trace behind KIND " + kind, x.trace(), all);
        }
        due("passes", x.passes(0, 2), 1);
        due("keep", x.keep(0), 1);
        due("back", x.back(0), 1);
        due("anew", x.anew(), 1);
        due("days", x.days(1), 0);
        due("no other call adds to it", x.trace(), all);
        due("moor", x.moor(), 0);
        due("moor() leaves it", x.trace(), all);
    }

    private static void refusedCallsChangeNothing() {
        MoorStones x = told("row hsbbh;walker 0 4;walker 2 0;sink 1;", 4);
        typeText(x, "row hh;walker 0 2;");
        x.keep(0);
        x.type(1, 9);
        x.moor();
        x.passes(0, 0);
        x.passes(1, 2);
        x.passes(2, 2);
        x.days(0);
        x.days(10);
        x.keep(2);
        x.back(1);
        x.back(-1);
        x.rate(6, 0);
        x.rate(0, 4);
        dueAll("ground", ground(x), 0, 2, 1, 1, 0);
        dueAll("bears", cells(x, 1), 0, 1, 0, 0, 0);
        due("passed", x.now(3), 0);
        due("text", x.count(4), 18);
        due("sink", x.count(3), 1);
        due("walkers", x.count(2), 2);
        due("trace", x.trace(), 0);
        due("image", x.back(0), 1);
    }

    private static void objectsAreApart() {
        MoorStones x = told("row hsbh;walker 0 3;", 2);
        MoorStones y = told("row bb;sink 4;", 2);
        due("passes", x.passes(0, 2), 2);
        x.rate(3, 0);
        due("the other's bog", y.now(1), 2);
        due("the other's trace", y.trace(), 0);
        due("the other's sink", y.count(3), 4);
        due("its own wide", x.count(0), 4);
    }
}
