import java.util.ArrayList;
import java.util.List;

/**
 * "Refused, and nothing changes, the first of these: BAD (a number is not as told, or there is no such thing), STATE (as
 * told), FULL." Each refused call is made on one of two objects that have come to the same state; behind it both must
 * show the same from then on: NOW, both IMAGES, what was told, THE TEXT and THE TRACE.
 */
public final class RefusalTest extends Checks {
    private interface Call {
        long on(MoorStones x);
    }

    private interface CallOfInt {
        long on(MoorStones x, int number);
    }

    private interface Scene {
        MoorStones made();
    }

    /** Numbers far out, at the edges of the sets of bits and of their type. */
    private static final int[] FAR = {
        Integer.MIN_VALUE, Integer.MIN_VALUE + 1, -1000000, -65536, -256, -64, -33, -32, -31, -24, -10, -9, -5, -3, -2,
        -1, 0, 1, 2, 3, 4, 5, 6, 7, 8, 9, 10, 11, 12, 13, 22, 23, 24, 25, 31, 32, 33, 63, 64, 99, 128, 255, 256, 300,
        301, 512, 65535, 65536, 1 << 24, 1 << 30, Integer.MAX_VALUE - 1, Integer.MAX_VALUE};

    public static void main(String[] args) {
        numbersOfCells();
        numbersOfWalkers();
        numbersOfWhat();
        numbersOfBytesAndDays();
        numbersOfKindsAndImages();
        nothingOfANewObject();
        nothingOfAMoorWithoutWalkers();
        greatestMoor();
        statePasses();
        statePlans();
        stateBack();
        fullText();
        faults();
        questionsChangeNothing();
        badFirst();
        end("what is refused changes nothing");
    }

    // ---- scenes

    /**
     * Twelve CELLS, two WALKERS, SINK 2; NOW, what was told and the two IMAGES all differ, THE TRACE is 1, THE TEXT has
     * two ITEMS, the last of them without its ;
     */
    private static MoorStones rich() {
        MoorStones x = told("row hsbhbb;row sbbhsb;walker 0 3;walker 6 10;sink 2;", 5);
        due("passes", x.passes(0, 2), 2);
        due("keep", x.keep(0), 4);
        due("passes", x.passes(1, 7), 5);
        due("keep", x.keep(1), 4);
        due("passes", x.passes(0, 11), 2);
        due("rate", x.rate(0, 0), 2);
        typeText(x, "row sb;sink 4");
        return x;
    }

    /** As many CELLS, WALKERS and bytes as there may be; no IMAGE. */
    private static MoorStones most() {
        MoorStones x = told("row hhssbb;row hhssbb;row hhssbb;row hhssbb;"
            + "walker 0 23;walker 23 0;walker 1 2;walker 2 1;sink 9;", 9);
        due("passes", x.passes(2, 23), 1);
        typeText(x, "row s;sink 3" + " ".repeat(288));
        return x;
    }

    /** Many CELLS of BOG: too many for joined() and byTurns(); IMAGE 1 alone is kept. */
    private static MoorStones mire() {
        MoorStones x = told("row hhbbbb;row bbbbbb;row bbbhbb;walker 0 1;walker 0 15;walker 15 2;sink 1;", 7);
        due("passes", x.passes(0, 4), 1);
        due("keep", x.keep(1), 1);
        due("passes", x.passes(0, 5), 1);
        due("rate", x.rate(3, 0), 6);
        typeText(x, "row h");
        return x;
    }

    /** Many CELLS that bear: too many for apart(); no BOG but one; IMAGE 0 alone is kept. */
    private static MoorStones heath() {
        MoorStones x = told("row hsshhh;row hhhhhb;row hhhhsb;walker 0 2;walker 2 11;sink 3;", 6);
        due("keep", x.keep(0), 3);
        due("passes", x.passes(0, 17), 1);
        typeText(x, "sink 0;");
        return x;
    }

    private static MoorStones noBog() {
        MoorStones x = heath();
        due("passes", x.passes(0, 11), 1);
        return x;
    }

    private static MoorStones noWalkers() {
        MoorStones x = told("row hsb;row bsh;", 2);
        due("keep", x.keep(0), 2);
        typeText(x, "row b;walker");
        return x;
    }

    private static MoorStones fresh() {
        return new MoorStones();
    }

    // ---- twins

    private static void refused(String call, Scene scene, Call refusedCall, long want) {
        MoorStones x = scene.made();
        MoorStones twin = scene.made();
        due(call, refusedCall.on(x), want);
        List<Integer> seen = history(x);
        List<Integer> dueThen = history(twin);
        due(call + ": how much is seen", seen.size(), dueThen.size());
        for (int i = 0; i < Math.min(seen.size(), dueThen.size()); i++) {
            due(call + ": changed, seen " + i, seen.get(i), dueThen.get(i));
        }
    }

    /** NOW, the IMAGES, what is told, and at last what THE TEXT tells, as it stands and with an end to its ITEM. */
    private static List<Integer> history(MoorStones x) {
        List<Integer> seen = new ArrayList<>();
        look(x, seen);
        for (int image = 0; image <= 1; image++) {
            int stones = x.back(image);
            seen.add(stones);
            if (stones >= 0) {
                look(x, seen);
            }
        }
        seen.add(x.anew());
        look(x, seen);
        seen.add(x.moor());
        seen.add(x.type(';', 1));
        seen.add(x.moor());
        look(x, seen);
        return seen;
    }

    /** All that can change, in as few calls as can be: an object has 512 in all. */
    private static void look(MoorStones x, List<Integer> seen) {
        int[] told = new int[5];
        for (int what = 0; what <= 4; what++) {
            told[what] = x.count(what);
            seen.add(told[what]);
        }
        for (int c = 0; c < told[0] * told[1]; c++) {
            for (int what = 0; what <= 2; what++) {
                seen.add(x.cell(c, what));
            }
        }
        for (int k = 0; k < told[2]; k++) {
            for (int what = 0; what <= 2; what++) {
                seen.add(x.walker(k, what));
            }
        }
        seen.add((int) x.trace());
    }

    /** Each number of FAR that is not least .. greatest is refused; those two edges themselves are not. */
    private static void onlyFromTo(String call, Scene scene, int least, int greatest, int refusal, CallOfInt c) {
        for (int number : FAR) {
            if (number < least || number > greatest) {
                refused(call + " with " + number, scene, x -> c.on(x, number), refusal);
            }
        }
        if (least > Integer.MIN_VALUE) {
            refused(call + ", one below", scene, x -> c.on(x, least - 1), refusal);
        }
        if (greatest < Integer.MAX_VALUE) {
            refused(call + ", one above", scene, x -> c.on(x, greatest + 1), refusal);
        }
        if (least <= greatest) {
            due(call + ", the least is none", c.on(scene.made(), least) == refusal ? 1 : 0, 0);
            due(call + ", the greatest is none", c.on(scene.made(), greatest) == refusal ? 1 : 0, 0);
        }
    }

    // ---- BAD

    private static void cellsOnlyTo(Scene scene, int greatest) {
        for (int what = 0; what <= 2; what++) {
            int asked = what;
            onlyFromTo("cell what " + what, scene, 0, greatest, BAD, (x, c) -> x.cell(c, asked));
        }
        onlyFromTo("passes c", scene, 0, greatest, BAD, (x, c) -> x.passes(0, c));
        onlyFromTo("steps a", scene, 0, greatest, BAD, (x, c) -> x.steps(c, 0));
        onlyFromTo("steps b", scene, 0, greatest, BAD, (x, c) -> x.steps(0, c));
        onlyFromTo("way a", scene, 0, greatest, BAD, (x, c) -> x.way(c, 0, 0));
        onlyFromTo("way b", scene, 0, greatest, BAD, (x, c) -> x.way(0, c, 0));
        onlyFromTo("stones a", scene, 0, greatest, BAD, (x, c) -> x.stones(c, 0));
        onlyFromTo("stones b", scene, 0, greatest, BAD, (x, c) -> x.stones(0, c));
        onlyFromTo("byTurns a", scene, 0, greatest, BAD, (x, c) -> x.byTurns(c, 0));
        onlyFromTo("byTurns b", scene, 0, greatest, BAD, (x, c) -> x.byTurns(0, c));
        onlyFromTo("apart a", scene, 0, greatest, BAD, (x, c) -> x.apart(c, c == 1 ? 2 : 1));
        onlyFromTo("apart b", scene, 0, greatest, BAD, (x, c) -> x.apart(c == 1 ? 2 : 1, c));
    }

    private static void numbersOfCells() {
        cellsOnlyTo(RefusalTest::rich, 11);
        for (int c = 0; c < 12; c++) {
            int same = c;
            refused("apart, one and the same", RefusalTest::rich, x -> x.apart(same, same), BAD);
        }
        onlyFromTo("way i", RefusalTest::rich, 0, Integer.MAX_VALUE, BAD, (x, i) -> x.way(0, 3, i));
        onlyFromTo("way i, no WAY", RefusalTest::rich, 0, Integer.MAX_VALUE, BAD, (x, i) -> x.way(0, 4, i));
    }

    private static void numbersOfWalkers() {
        for (int what = 0; what <= 3; what++) {
            int asked = what;
            onlyFromTo("walker what " + what, RefusalTest::rich, 0, 1, BAD, (x, k) -> x.walker(k, asked));
        }
        onlyFromTo("passes k", RefusalTest::rich, 0, 1, BAD, (x, k) -> x.passes(k, 4));
        onlyFromTo("likes k", RefusalTest::rich, 0, 1, BAD, (x, k) -> x.likes(k));
        for (int kind = 0; kind <= 5; kind++) {
            int asked = kind;
            onlyFromTo("rate k of KIND " + kind, RefusalTest::rich, 0, 1, NO, (x, k) -> x.rate(asked, k));
        }
    }

    private static void numbersOfWhat() {
        onlyFromTo("cell what", RefusalTest::rich, 0, 2, BAD, (x, what) -> x.cell(0, what));
        onlyFromTo("walker what", RefusalTest::rich, 0, 3, BAD, (x, what) -> x.walker(1, what));
        onlyFromTo("now what", RefusalTest::rich, 0, 3, BAD, (x, what) -> x.now(what));
        onlyFromTo("count what", RefusalTest::rich, 0, 4, BAD, (x, what) -> x.count(what));
        onlyFromTo("joined what", RefusalTest::rich, 0, 1, BAD, (x, what) -> x.joined(9, what));
        onlyFromTo("joined set", RefusalTest::rich, Integer.MIN_VALUE, Integer.MAX_VALUE, BAD, (x, set) -> x.joined(set, 1));
    }

    private static void numbersOfBytesAndDays() {
        onlyFromTo("type n", RefusalTest::rich, 1, 8, BAD, (x, n) -> x.type(0x3b3b3b3b3b3b3b3bL, n));
        onlyFromTo("days n", RefusalTest::rich, 1, 9, BAD, (x, n) -> x.days(n));
    }

    private static void numbersOfKindsAndImages() {
        onlyFromTo("rate kind", RefusalTest::rich, 0, 5, NO, (x, kind) -> x.rate(kind, 1));
        onlyFromTo("keep image", RefusalTest::rich, 0, 1, BAD, (x, image) -> x.keep(image));
        onlyFromTo("back image", RefusalTest::rich, 0, 1, BAD, (x, image) -> x.back(image));
    }

    /** "no CELLS, no WALKERS": every number of one is BAD. */
    private static void nothingOfANewObject() {
        cellsOnlyTo(RefusalTest::fresh, -1);
        noWalkersIn(RefusalTest::fresh);
        onlyFromTo("way i", RefusalTest::fresh, 0, -1, BAD, (x, i) -> x.way(0, 0, i));
        refused("back 0", RefusalTest::fresh, x -> x.back(0), STATE);
        refused("back 1", RefusalTest::fresh, x -> x.back(1), STATE);
    }

    private static void nothingOfAMoorWithoutWalkers() {
        noWalkersIn(RefusalTest::noWalkers);
        refused("back 1", RefusalTest::noWalkers, x -> x.back(1), STATE);
    }

    private static void noWalkersIn(Scene scene) {
        onlyFromTo("walker k", scene, 0, -1, BAD, (x, k) -> x.walker(k, 0));
        onlyFromTo("passes k", scene, 0, -1, BAD, (x, k) -> x.passes(k, 0));
        onlyFromTo("likes k", scene, 0, -1, BAD, (x, k) -> x.likes(k));
        onlyFromTo("rate k", scene, 0, -1, NO, (x, k) -> x.rate(0, k));
    }

    private static void greatestMoor() {
        refused("cell 24", RefusalTest::most, x -> x.cell(24, 0), BAD);
        refused("cell -1", RefusalTest::most, x -> x.cell(-1, 0), BAD);
        refused("walker 4", RefusalTest::most, x -> x.walker(4, 0), BAD);
        refused("walker -1", RefusalTest::most, x -> x.walker(-1, 0), BAD);
        refused("passes 4", RefusalTest::most, x -> x.passes(4, 22), BAD);
        refused("passes to 24", RefusalTest::most, x -> x.passes(3, 24), BAD);
        refused("passes to -1", RefusalTest::most, x -> x.passes(3, -1), BAD);
        refused("likes 4", RefusalTest::most, x -> x.likes(4), BAD);
        refused("rate 4", RefusalTest::most, x -> x.rate(5, 4), NO);
        refused("steps to 24", RefusalTest::most, x -> x.steps(0, 24), BAD);
        refused("days 10", RefusalTest::most, x -> x.days(10), BAD);
        refused("passes, a STONE there", RefusalTest::most, x -> x.passes(3, 23), STATE);
    }

    // ---- STATE, FULL

    /** "STATE: no WAY, or no BOG there." */
    private static void statePasses() {
        refused("passes to HEATHER", RefusalTest::rich, x -> x.passes(0, 9), STATE);
        refused("passes, laid on its start", RefusalTest::rich, x -> x.passes(0, 0), STATE);
        refused("passes, a told STONE there", RefusalTest::rich, x -> x.passes(0, 10), STATE);
        refused("passes, a laid STONE there", RefusalTest::rich, x -> x.passes(1, 7), STATE);
        refused("passes, no WAY", RefusalTest::mire, x -> x.passes(1, 8), STATE);
        refused("passes, no WAY: the goal is BOG", RefusalTest::mire, x -> x.passes(2, 8), STATE);
        refused("passes, neither", RefusalTest::mire, x -> x.passes(1, 4), STATE);
        for (int c = 0; c < 18; c++) {
            int place = c;
            refused("passes, no BOG at all", RefusalTest::noBog, x -> x.passes(1, place), STATE);
            if (c != 11) {
                refused("passes, not where the BOG is", RefusalTest::heath, x -> x.passes(0, place), STATE);
            }
        }
    }

    /** "more than 10 CELLS of BOG", "more than 8 CELLS of BOG", "12 CELLS at most may bear" */
    private static void statePlans() {
        for (int set : FAR) {
            refused("joined", RefusalTest::mire, x -> x.joined(set, 0), STATE);
            refused("joined", RefusalTest::mire, x -> x.joined(set, 1), STATE);
        }
        for (int c = 0; c < 18; c++) {
            int place = c;
            refused("byTurns", RefusalTest::mire, x -> x.byTurns(place, 2), STATE);
            refused("byTurns", RefusalTest::mire, x -> x.byTurns(0, place), STATE);
            refused("apart", RefusalTest::heath, x -> x.apart(0, place), c == 0 ? BAD : STATE);
            refused("apart", RefusalTest::heath, x -> x.apart(place, 17), c == 17 ? BAD : STATE);
        }
    }

    /** "STATE: none was kept." */
    private static void stateBack() {
        refused("back", RefusalTest::mire, x -> x.back(0), STATE);
        refused("back", RefusalTest::heath, x -> x.back(1), STATE);
        refused("back", RefusalTest::most, x -> x.back(0), STATE);
        refused("back", RefusalTest::most, x -> x.back(1), STATE);
    }

    /** "FULL" */
    private static void fullText() {
        for (int n = 1; n <= 8; n++) {
            int bytes = n;
            refused("type to 300", RefusalTest::most, x -> x.type(0x3b3b3b3b3b3b3b3bL, bytes), FULL);
            refused("type to one more than is free", () -> free(bytes - 1), x -> x.type(0x3b3b3b3b3b3b3b3bL, bytes), FULL);
            due("type to just what is free", free(bytes).type(0x3b3b3b3b3b3b3b3bL, bytes), 300);
        }
    }

    private static MoorStones free(int bytes) {
        MoorStones x = new MoorStones();
        typeText(x, "row h" + " ".repeat(295 - bytes));
        return x;
    }

    /** "-10 less FAULT: nothing changes (THE TEXT stays, too)." */
    private static void faults() {
        String[] texts = {"?", "row", "row ;", "row hx;", "row hhhhhhh;", "row s;row s;row s;row s;row s;", "row s;row ss;",
            "row s;sink 10;", "row s;sink 1;sink 1;", "row ss;walker 0 0;", "row ss;walker 0 2;", "row ss;walker 2 0;",
            "row ss;walker 0 1;row ss;", "row ss;" + "walker 0 1;".repeat(5), "row bbs;walker 1 2;sink 9;walker 0 1",
            "row s;sink 7;;", "row s;sink 03;", "row s;sink 100;", "row bbbbbb;row ssssss;row hhhhhh;row hhhhhh;walker 23 0;x"};
        int[] places = {0, 3, 4, 4, 4, 24, 10, 11, 13, 16, 16, 14, 18, 51, 36, 13, 11, 11, 56};
        for (int i = 0; i < texts.length; i++) {
            String text = texts[i];
            refused("moor() of " + text, () -> richWith(text), x -> x.moor(), -10 - places[i]);
        }
    }

    private static MoorStones richWith(String text) {
        MoorStones x = rich();
        due("clear", x.clear(), 13);
        typeText(x, text);
        return x;
    }

    /** "(From NOW; nothing is changed.)": neither by what is answered, nor by what is refused */
    private static void questionsChangeNothing() {
        refused("steps", RefusalTest::rich, x -> x.steps(0, 3), 2);
        refused("steps: NONE", RefusalTest::rich, x -> x.steps(0, 4), NONE);
        refused("way", RefusalTest::rich, x -> x.way(0, 3, 1), 2);
        refused("way: -5", RefusalTest::rich, x -> x.way(0, 3, 3), -5);
        refused("way: NONE", RefusalTest::rich, x -> x.way(0, 4, 0), NONE);
        refused("stones", RefusalTest::rich, x -> x.stones(0, 5), 1);
        refused("joined", RefusalTest::rich, x -> x.joined(1 | 32, 1), 32);
        refused("likes", RefusalTest::rich, x -> x.likes(0), 1);
        refused("likes: NONE", RefusalTest::noBog, x -> x.likes(0), NONE);
        refused("byTurns", RefusalTest::rich, x -> x.byTurns(0, 5), 1);
        refused("apart", RefusalTest::rich, x -> x.apart(0, 3), 2);
        refused("apart: NONE", RefusalTest::rich, x -> x.apart(0, 1), NONE);
        refused("cell", RefusalTest::rich, x -> x.cell(7, 2), 1);
        refused("walker", RefusalTest::rich, x -> x.walker(1, 3), 1);
        refused("now", RefusalTest::rich, x -> x.now(3), 3);
        refused("count", RefusalTest::rich, x -> x.count(4), 13);
        refused("trace", RefusalTest::rich, x -> x.trace(), 1);
        refused("back as it was kept", RefusalTest::mireAsKept, x -> x.back(1), 1);
    }

    private static MoorStones mireAsKept() {
        MoorStones x = mire();
        due("back", x.back(1), 1);
        return x;
    }

    /** "the first of these: BAD .., STATE .., FULL" */
    private static void badFirst() {
        refused("type", RefusalTest::most, x -> x.type(0, 9), BAD);
        refused("type", RefusalTest::most, x -> x.type(0, 0), BAD);
        refused("joined", RefusalTest::mire, x -> x.joined(1, 2), BAD);
        refused("joined", RefusalTest::mire, x -> x.joined(1, -1), BAD);
        refused("byTurns", RefusalTest::mire, x -> x.byTurns(18, 0), BAD);
        refused("byTurns", RefusalTest::mire, x -> x.byTurns(0, -1), BAD);
        refused("apart", RefusalTest::heath, x -> x.apart(3, 3), BAD);
        refused("apart", RefusalTest::heath, x -> x.apart(0, 18), BAD);
        refused("passes", RefusalTest::mire, x -> x.passes(1, 18), BAD);
        refused("passes", RefusalTest::mire, x -> x.passes(3, 0), BAD);
        refused("passes", RefusalTest::mire, x -> x.passes(-1, 4), BAD);
        refused("back", RefusalTest::most, x -> x.back(2), BAD);
        refused("back", RefusalTest::most, x -> x.back(-1), BAD);
        refused("way", RefusalTest::rich, x -> x.way(0, 4, -1), BAD);
    }
}
