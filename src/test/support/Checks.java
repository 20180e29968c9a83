/** What the tests share: answers that are due, and moors that are told by a text. */
abstract class Checks {
    static final int BAD = -1, STATE = -2, FULL = -3, NONE = -9, NO = -1000000;

    private static int wrong = 0;

    static void due(String call, long got, long want) {
        if (got != want) {
            wrong++;
            System.out.println(call + " answered " + got + ", due is " + want);
        }
    }

    /** A row of answers at once, so that a moor can be looked at in one line. */
    static void dueAll(String calls, int[] got, int... want) {
        due(calls + ": how many", got.length, want.length);
        for (int i = 0; i < Math.min(got.length, want.length); i++) {
            due(calls + " [" + i + "]", got[i], want[i]);
        }
    }

    static void end(String held) {
        System.out.println(wrong == 0 ? held : wrong + " answers are not as due");
        if (wrong != 0) {
            System.exit(1);
        }
    }

    static void typeText(MoorStones x, String text) {
        int had = x.count(4);
        for (int i = 0; i < text.length(); i += 8) {
            int n = Math.min(8, text.length() - i);
            long v = 0;
            for (int j = 0; j < n; j++) {
                v = v << 8 | text.charAt(i + j);
            }
            due("type of " + text, x.type(v, n), had + i + n);
        }
    }

    static MoorStones told(String text, int items) {
        MoorStones x = new MoorStones();
        typeText(x, text);
        due("moor() of " + text, x.moor(), items);
        return x;
    }

    static void fault(String text, int place) {
        MoorStones x = new MoorStones();
        typeText(x, text);
        due("moor() of " + text, x.moor(), -10 - place);
        due("moor() once more of " + text, x.moor(), -10 - place);
        due("bytes of " + text, x.count(4), text.length());
    }

    static int[] ground(MoorStones x) {
        return cells(x, 0);
    }

    static int[] cells(MoorStones x, int what) {
        int[] all = new int[x.count(0) * x.count(1)];
        for (int c = 0; c < all.length; c++) {
            all[c] = x.cell(c, what);
        }
        return all;
    }

    static int[] way(MoorStones x, int a, int b) {
        int length = Math.max(0, x.steps(a, b) + 1);
        int[] way = new int[length];
        for (int i = 0; i < length; i++) {
            way[i] = x.way(a, b, i);
        }
        return way;
    }
}
