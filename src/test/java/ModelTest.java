import java.util.ArrayDeque;
import java.util.ArrayList;
import java.util.Arrays;
import java.util.HashMap;
import java.util.List;
import java.util.Map;
import java.util.PriorityQueue;
import java.util.regex.Matcher;
import java.util.regex.Pattern;

/**
 * Many runs of calls, drawn by a fixed row of numbers, on MoorStones and on a second, slow program that was written
 * from the document alone, with other means: rows and lists instead of bits, a pattern for the TOKENS, least of all
 * paths layer by layer. Both must answer every call alike, and look alike now and then and at the end. What comes behind
 * an object's 512th call is free, so no run is longer than that.
 */
public final class ModelTest {
    private static final int RUNS = 3000;
    private static final int MOST_CALLS = 512;
    /** As many calls as looking at the greatest moor takes. */
    private static final int LOOK = 5 + 4 + 24 * 3 + 4 * 4 + 1;

    private static long seed;
    /** How many calls of the run MoorStones has answered. */
    private static int asked;

    public static void main(String[] args) {
        int wrong = 0;
        for (int run = 0; run < RUNS && wrong < 5; run++) {
            seed = 77 + 1000003L * run;
            String fault = oneRun();
            if (fault != null) {
                wrong++;
                System.out.println("run " + run + ": " + fault);
            }
        }
        System.out.println(wrong == 0 ? RUNS + " runs are alike" : "runs are not alike");
        if (wrong != 0) {
            System.exit(1);
        }
    }

    private static int draw(int below) {
        seed = seed * 6364136223846793005L + 1442695040888963407L;
        return (int) ((seed >>> 33) % below);
    }

    private static String oneRun() {
        MoorStones x = new MoorStones();
        Model m = new Model();
        List<String> calls = new ArrayList<>();
        int bogShare = draw(10);
        int most = MOST_CALLS - draw(400);
        asked = 0;
        boolean alike = oneText(calls, x, m, bogShare);
        while (alike && asked + 1 + LOOK <= most) {
            if (draw(40) == 0) {
                alike = oneText(calls, x, m, bogShare);
            } else if (draw(30) == 0 && asked + 2 * LOOK <= most) {
                alike = oneLook(calls, x, m);
            } else {
                alike = oneCall(calls, x, m);
            }
        }
        if (alike) {
            alike = oneLook(calls, x, m);
        }
        if (asked > MOST_CALLS) {
            calls.add("more calls than are promised: " + asked);
            return calls.toString();
        }
        return alike ? null : calls.toString();
    }

    /** A text, as long as there are calls left to type it byte by byte. */
    private static boolean oneText(List<String> calls, MoorStones x, Model m, int bogShare) {
        String text = drawText(bogShare);
        if (draw(3) == 0) {
            text = spoil(text);
        }
        if (asked + text.length() + 2 + LOOK > MOST_CALLS) {
            return true;
        }
        calls.add("text " + text);
        if (draw(4) != 0 && !same(calls, "clear()", x.clear(), m.clear())) {
            return false;
        }
        if (!typeAll(calls, x, m, text)) {
            return false;
        }
        calls.add("moor()");
        return same(calls, "moor()", x.moor(), m.moor());
    }

    private static boolean typeAll(List<String> calls, MoorStones x, Model m, String text) {
        int i = 0;
        while (i < text.length()) {
            int n = Math.min(1 + draw(8), text.length() - i);
            long v = draw(2) == 0 ? -1L : 0L;
            for (int j = 0; j < n; j++) {
                v = v << 8 | text.charAt(i + j);
            }
            if (!same(calls, "type(" + v + ", " + n + ")", x.type(v, n), m.type(v, n))) {
                return false;
            }
            i += n;
        }
        return true;
    }

    private static boolean same(List<String> calls, String call, long got, long due) {
        asked++;
        if (got != due) {
            calls.add(call + " answered " + got + ", due is " + due);
        }
        return got == due;
    }

    private static boolean oneCall(List<String> calls, MoorStones x, Model m) {
        int a = wild(drawCell(m));
        int b = draw(12) == 0 ? a : wild(drawCell(m));
        int k = wild(draw(8) == 0 ? draw(7) - 1 : draw(Math.max(1, m.walkers.size())));
        int what = wild(draw(7) - 1);
        int image = wild(draw(10) == 0 ? draw(5) - 2 : draw(2));
        int set = draw(4) == 0 ? draw(1 << 30) - (1 << 29) : 1 << draw(24) | 1 << draw(24) | draw(2) << draw(24);
        long got;
        long due;
        String call;
        switch (draw(21)) {
            case 0: call = "cell " + a + " " + what; got = x.cell(a, what); due = m.cell(a, what); break;
            case 1: call = "walker " + k + " " + what; got = x.walker(k, what); due = m.walker(k, what); break;
            case 2: case 3: case 4:
                if (draw(6) != 0) { a = m.someBog(draw(24)); }
                call = "passes " + k + " " + a; got = x.passes(k, a); due = m.passes(k, a); break;
            case 5: { int n = draw(4) == 0 ? wild(draw(13) - 1) : 1 + draw(2);
                call = "days " + n; got = x.days(n); due = m.days(n); break; }
            case 6: call = "now " + what; got = x.now(what); due = m.now(what); break;
            case 7:
                if (draw(3) != 0) { call = "trace"; got = x.trace(); due = m.trace; break; }
                call = "anew"; got = x.anew(); due = m.anew(); break;
            case 8: call = "steps " + a + " " + b; got = x.steps(a, b); due = m.steps(a, b); break;
            case 9: case 10: { int i = wild(draw(8) - 1);
                call = "way " + a + " " + b + " " + i; got = x.way(a, b, i); due = m.way(a, b, i); break; }
            case 11: call = "stones " + a + " " + b; got = x.stones(a, b); due = m.stones(a, b); break;
            case 12: { int w = draw(8) == 0 ? what : draw(2);
                call = "joined " + set + " " + w; got = x.joined(set, w); due = m.joined(set, w); break; }
            case 13: call = "likes " + k; got = x.likes(k); due = m.likes(k); break;
            case 14: call = "byTurns " + a + " " + b; got = x.byTurns(a, b); due = m.byTurns(a, b); break;
            case 15: call = "apart " + a + " " + b; got = x.apart(a, b); due = m.apart(a, b); break;
            case 16: case 17: { int kind = wild(draw(8) - 1);
                call = "rate " + kind + " " + k; got = x.rate(kind, k); due = m.rate(kind, k); break; }
            case 18: call = "count " + what; got = x.count(what); due = m.count(what); break;
            case 19: call = "keep " + image; got = x.keep(image); due = m.keep(image); break;
            default: call = "back " + image; got = x.back(image); due = m.back(image); break;
        }
        calls.add(call);
        return same(calls, call, got, due);
    }

    /** Now and then a number far off, in the stead of an ordinary one. */
    private static int wild(int ordinary) {
        int[] far = {Integer.MIN_VALUE, Integer.MAX_VALUE, 24, 25, 31, 32, 33, 64, -31, -32, -33, 1 << 16};
        return draw(60) == 0 ? far[draw(far.length)] : ordinary;
    }

    private static int drawCell(Model m) {
        int cells = m.wide * m.high;
        return draw(15) == 0 || cells == 0 ? draw(40) - 8 : draw(cells);
    }

    /** All that can be seen of NOW and of what was told. */
    private static boolean oneLook(List<String> calls, MoorStones x, Model m) {
        calls.add("look");
        boolean alike = same(calls, "trace", x.trace(), m.trace);
        for (int what = 0; what <= 4; what++) {
            alike &= same(calls, "count " + what, x.count(what), m.count(what));
        }
        for (int what = 0; what <= 3; what++) {
            alike &= same(calls, "now " + what, x.now(what), m.now(what));
            for (int k = 0; k < m.walkers.size(); k++) {
                alike &= same(calls, "walker " + k + " " + what, x.walker(k, what), m.walker(k, what));
            }
        }
        for (int what = 0; what <= 2; what++) {
            for (int c = 0; c < m.wide * m.high; c++) {
                alike &= same(calls, "cell " + c + " " + what, x.cell(c, what), m.cell(c, what));
            }
        }
        return alike;
    }

    private static String blanks() {
        return draw(6) == 0 ? "   ".substring(draw(4)) : "";
    }

    private static String drawText(int bogShare) {
        StringBuilder text = new StringBuilder();
        int wide = 1 + draw(6);
        int high = draw(30) == 0 ? 0 : 1 + draw(4);
        int sinkAt = draw(2) == 0 ? draw(10) : -1;
        int items = 0;
        for (int row = 0; row < high; row++) {
            if (items++ == sinkAt) {
                text.append("sink ").append(draw(3) == 0 ? draw(10) : 1 + draw(3)).append(";");
            }
            text.append(blanks()).append("row ").append(blanks());
            for (int c = 0; c < wide; c++) {
                text.append(draw(10) < bogShare ? 'b' : draw(3) == 0 ? 'h' : 's');
            }
            text.append(blanks()).append(";");
        }
        int walkers = wide * high < 2 ? 0 : draw(5);
        for (int k = 0; k < walkers; k++) {
            int a = draw(wide * high);
            int b = (a + 1 + draw(wide * high - 1)) % (wide * high);
            text.append("walker").append(draw(2) == 0 ? " " : "").append(a).append(" ").append(blanks()).append(b)
                    .append(blanks()).append(";");
            if (items++ == sinkAt) {
                text.append("sink").append(draw(10)).append(";");
            }
        }
        return text.append(blanks()).toString();
    }

    private static final String[] PIECES = {
        "row ", "walker ", "sink ", ";", " ", "0", "1", "9", "12", "100", "007", "h", "b", "s", "hbs", "x", "Z", "\t",
        "\u00e9", "\u00ff", "\u0000", "row hbs;", "walker 0 1;", "sink 3;", "sink 10;", "row", "rows", "{", "`", "/", ":", "!"};

    private static String spoil(String text) {
        StringBuilder spoilt = new StringBuilder(text);
        for (int times = 1 + draw(2); times > 0; times--) {
            int at = draw(spoilt.length() + 1);
            switch (draw(4)) {
                case 0: spoilt.setLength(at); break;
                case 1: if (at < spoilt.length()) { spoilt.deleteCharAt(at); } break;
                case 2: spoilt.insert(at, PIECES[draw(PIECES.length)]); break;
                default: if (at < spoilt.length()) { spoilt.replace(at, at + 1, PIECES[draw(PIECES.length)]); } break;
            }
        }
        return spoilt.toString();
    }

    /** The slow program. */
    private static final class Model {
        String text = "";
        int wide;
        int high;
        int sink;
        String told = "";
        List<int[]> walkers = new ArrayList<>();
        State state = new State();
        State[] images = new State[2];
        long trace;

        static final class State {
            char[] ground = new char[0];
            int[] bears = new int[0];
            int[] laid = new int[0];
            int[] passed = new int[0];

            State same() {
                State s = new State();
                s.ground = ground.clone();
                s.bears = bears.clone();
                s.laid = laid.clone();
                s.passed = passed.clone();
                return s;
            }
        }

        // the text

        int type(long v, int n) {
            if (n < 1 || n > 8) {
                return -1;
            }
            if (text.length() + n > 300) {
                return -3;
            }
            String more = "";
            for (int i = 0; i < n; i++) {
                more = (char) (v & 255) + more;
                v >>= 8;
            }
            text += more;
            return text.length();
        }

        int clear() {
            int had = text.length();
            text = "";
            return had;
        }

        int moor() {
            List<String> tokens = new ArrayList<>();
            List<Integer> places = new ArrayList<>();
            Matcher matcher = Pattern.compile("[a-z]+|[0-9]+|;").matcher(text);
            int i = 0;
            while (i < text.length()) {
                if (text.charAt(i) == ' ') {
                    i++;
                    continue;
                }
                matcher.region(i, text.length());
                places.add(i);
                if (matcher.lookingAt()) {
                    tokens.add(matcher.group());
                    i = matcher.end();
                } else {
                    tokens.add("?");
                    i++;
                }
            }
            places.add(text.length());
            tokens.add("");
            return read(tokens, places);
        }

        private int read(List<String> tokens, List<Integer> places) {
            String cells = "";
            int w = 0;
            int h = 0;
            int s = -1;
            int items = 0;
            List<int[]> goers = new ArrayList<>();
            int t = 0;
            while (!tokens.get(t).isEmpty()) {
                String word = tokens.get(t);
                if (word.equals("row") && h < 4 && goers.isEmpty()) {
                    String row = tokens.get(++t);
                    if (!row.matches(h == 0 ? "[hbs]{1,6}" : "[hbs]{" + w + "}")) {
                        return -10 - places.get(t);
                    }
                    w = row.length();
                    h++;
                    cells += row;
                } else if (word.equals("walker") && goers.size() < 4) {
                    int a = number(tokens.get(++t), w * h - 1);
                    if (a < 0) {
                        return -10 - places.get(t);
                    }
                    int b = number(tokens.get(++t), w * h - 1);
                    if (b < 0 || b == a) {
                        return -10 - places.get(t);
                    }
                    goers.add(new int[] {a, b});
                } else if (word.equals("sink") && s < 0) {
                    s = number(tokens.get(++t), 9);
                    if (s < 0) {
                        return -10 - places.get(t);
                    }
                } else {
                    return -10 - places.get(t);
                }
                if (!tokens.get(++t).equals(";")) {
                    return -10 - places.get(t);
                }
                t++;
                items++;
            }
            wide = w;
            high = h;
            sink = Math.max(s, 0);
            told = cells;
            walkers = goers;
            text = "";
            images = new State[2];
            begin();
            return items;
        }

        private static int number(String token, int most) {
            if (!token.matches("0|[1-9][0-9]?")) {
                return -1;
            }
            int number = Integer.parseInt(token);
            return number <= most ? number : -1;
        }

        private void begin() {
            state = new State();
            state.ground = told.toCharArray();
            state.bears = new int[told.length()];
            state.laid = new int[told.length()];
            state.passed = new int[walkers.size()];
            Arrays.fill(state.laid, -9);
            for (int c = 0; c < told.length(); c++) {
                state.bears[c] = state.ground[c] == 's' ? sink : 0;
            }
        }

        // what there is

        boolean isCell(int c) {
            return c >= 0 && c < told.length();
        }

        boolean isWalker(int k) {
            return k >= 0 && k < walkers.size();
        }

        int countOf(char ground) {
            int n = 0;
            for (char g : state.ground) {
                n += g == ground ? 1 : 0;
            }
            return n;
        }

        int someBog(int from) {
            for (int i = 0; i < told.length(); i++) {
                int c = (from + i) % told.length();
                if (state.ground[c] == 'b') {
                    return c;
                }
            }
            return 0;
        }

        int laidBy(int k) {
            int n = 0;
            for (int layer : state.laid) {
                n += layer == k ? 1 : 0;
            }
            return n;
        }

        int cell(int c, int what) {
            if (!isCell(c) || what < 0 || what > 2) {
                return -1;
            }
            return what == 0 ? "hbs".indexOf(state.ground[c]) : what == 1 ? state.bears[c] : state.laid[c];
        }

        int walker(int k, int what) {
            if (!isWalker(k) || what < 0 || what > 3) {
                return -1;
            }
            return what < 2 ? walkers.get(k)[what] : what == 2 ? state.passed[k] : laidBy(k);
        }

        int now(int what) {
            if (what < 0 || what > 3) {
                return -1;
            }
            return what < 3 ? countOf("hbs".charAt(what)) : Arrays.stream(state.passed).sum();
        }

        int count(int what) {
            int[] all = {wide, high, walkers.size(), sink, text.length()};
            return what < 0 || what > 4 ? -1 : all[what];
        }

        int anew() {
            int passed = now(3);
            begin();
            return passed;
        }

        int keep(int image) {
            if (image != 0 && image != 1) {
                return -1;
            }
            images[image] = state.same();
            return countOf('s');
        }

        int back(int image) {
            if (image != 0 && image != 1) {
                return -1;
            }
            if (images[image] == null) {
                return -2;
            }
            state = images[image].same();
            return countOf('s');
        }

        // ways

        boolean oneStep(int a, int b) {
            int across = Math.abs(a % wide - b % wide);
            int down = Math.abs(a / wide - b / wide);
            return across == 0 && (down == 1 || down == 2) || down == 0 && (across == 1 || across == 2);
        }

        /** The first of the shortest paths to b, found as the least path to every cell, layer by layer; null: none. */
        List<Integer> path(char[] ground, int a, int b) {
            if (ground[a] == 'b' || ground[b] == 'b') {
                return null;
            }
            Map<Integer, List<Integer>> known = new HashMap<>();
            known.put(a, List.of(a));
            while (!known.containsKey(b)) {
                Map<Integer, List<Integer>> layer = new HashMap<>();
                for (Map.Entry<Integer, List<Integer>> e : known.entrySet()) {
                    for (int c = 0; c < ground.length; c++) {
                        if (ground[c] != 'b' && !known.containsKey(c) && oneStep(e.getKey(), c)) {
                            List<Integer> p = new ArrayList<>(e.getValue());
                            p.add(c);
                            if (!layer.containsKey(c) || shorterOrLess(p, layer.get(c))) {
                                layer.put(c, p);
                            }
                        }
                    }
                }
                if (layer.isEmpty()) {
                    return null;
                }
                known.putAll(layer);
            }
            return known.get(b);
        }

        private static boolean shorterOrLess(List<Integer> p, List<Integer> q) {
            if (p.size() != q.size()) {
                return p.size() < q.size();
            }
            for (int i = 0; i < p.size(); i++) {
                if (!p.get(i).equals(q.get(i))) {
                    return p.get(i) < q.get(i);
                }
            }
            return false;
        }

        int stepsOn(char[] ground, int a, int b) {
            List<Integer> p = path(ground, a, b);
            return p == null ? -9 : p.size() - 1;
        }

        int steps(int a, int b) {
            return isCell(a) && isCell(b) ? stepsOn(state.ground, a, b) : -1;
        }

        int way(int a, int b, int i) {
            if (!isCell(a) || !isCell(b) || i < 0) {
                return -1;
            }
            List<Integer> p = path(state.ground, a, b);
            return p == null ? -9 : i < p.size() ? p.get(i) : -5;
        }

        int stones(int a, int b) {
            if (!isCell(a) || !isCell(b)) {
                return -1;
            }
            int[] cost = new int[told.length()];
            Arrays.fill(cost, 99);
            cost[a] = state.ground[a] == 'b' ? 1 : 0;
            PriorityQueue<int[]> queue = new PriorityQueue<>((p, q) -> p[0] - q[0]);
            queue.add(new int[] {cost[a], a});
            while (!queue.isEmpty()) {
                int[] top = queue.remove();
                for (int c = 0; c < told.length(); c++) {
                    int sum = top[0] + (state.ground[c] == 'b' ? 1 : 0);
                    if (oneStep(top[1], c) && sum < cost[c]) {
                        cost[c] = sum;
                        queue.add(new int[] {sum, c});
                    }
                }
            }
            return cost[b];
        }

        int joined(int set, int what) {
            if (what != 0 && what != 1) {
                return -1;
            }
            List<Integer> bog = new ArrayList<>();
            for (int c = 0; c < told.length(); c++) {
                if (state.ground[c] == 'b') {
                    bog.add(c);
                }
            }
            if (bog.size() > 10) {
                return -2;
            }
            int fewest = 99;
            int least = -1;
            for (int choice = 0; choice < 1 << bog.size(); choice++) {
                char[] ground = state.ground.clone();
                int bits = 0;
                int n = 0;
                for (int j = 0; j < bog.size(); j++) {
                    if ((choice >> j & 1) == 1) {
                        ground[bog.get(j)] = 's';
                        bits += 1 << bog.get(j);
                        n++;
                    }
                }
                if ((n < fewest || n == fewest && bits < least) && allJoined(ground, set)) {
                    fewest = n;
                    least = bits;
                }
            }
            return what == 0 ? fewest : least;
        }

        private boolean allJoined(char[] ground, int set) {
            List<Integer> some = new ArrayList<>();
            for (int c = 0; c < ground.length; c++) {
                if ((set >> c & 1) == 1) {
                    some.add(c);
                    if (ground[c] == 'b') {
                        return false;
                    }
                }
            }
            if (some.isEmpty()) {
                return true;
            }
            boolean[] seen = seenFrom(ground, some.get(0));
            for (int c : some) {
                if (!seen[c]) {
                    return false;
                }
            }
            return true;
        }

        private boolean[] seenFrom(char[] ground, int a) {
            boolean[] seen = new boolean[ground.length];
            ArrayDeque<Integer> open = new ArrayDeque<>();
            open.add(a);
            seen[a] = true;
            while (!open.isEmpty()) {
                int p = open.remove();
                for (int c = 0; c < ground.length; c++) {
                    if (!seen[c] && ground[c] != 'b' && oneStep(p, c)) {
                        seen[c] = true;
                        open.add(c);
                    }
                }
            }
            return seen;
        }

        int likes(int k) {
            if (!isWalker(k)) {
                return -1;
            }
            int best = -9;
            int fewest = 0;
            for (int c = told.length() - 1; c >= 0; c--) {
                if (state.ground[c] == 'b') {
                    char[] ground = state.ground.clone();
                    ground[c] = 's';
                    int n = stepsOn(ground, walkers.get(k)[0], walkers.get(k)[1]);
                    n = n < 0 ? 1000 : n;
                    if (best == -9 || n <= fewest) {
                        best = c;
                        fewest = n;
                    }
                }
            }
            return best;
        }

        int byTurns(int a, int b) {
            if (!isCell(a) || !isCell(b)) {
                return -1;
            }
            if (countOf('b') > 8) {
                return -2;
            }
            return play(state.ground.clone(), a, b, true, new HashMap<>());
        }

        private int play(char[] ground, int a, int b, boolean soon, Map<String, Integer> known) {
            if (ground[a] != 'b' && ground[b] != 'b' && seenFrom(ground, a)[b]) {
                return 0;
            }
            String key = new String(ground);
            if (known.containsKey(key)) {
                return known.get(key);
            }
            int best = -1;
            for (int c = 0; c < ground.length; c++) {
                if (ground[c] == 'b') {
                    ground[c] = 's';
                    int then = 1 + play(ground, a, b, !soon, known);
                    ground[c] = 'b';
                    if (best < 0 || (soon ? then < best : then > best)) {
                        best = then;
                    }
                }
            }
            known.put(key, best);
            return best;
        }

        int apart(int a, int b) {
            if (!isCell(a) || !isCell(b) || a == b) {
                return -1;
            }
            List<Integer> others = new ArrayList<>();
            for (int c = 0; c < told.length(); c++) {
                if (state.ground[c] != 'b' && c != a && c != b) {
                    others.add(c);
                }
            }
            if (others.size() > 12) {
                return -2;
            }
            if (state.ground[a] == 'b' || state.ground[b] == 'b' || oneStep(a, b)) {
                return -9;
            }
            for (int n = 0; ; n++) {
                if (parts(state.ground.clone(), others, 0, n, a, b)) {
                    return n;
                }
            }
        }

        private boolean parts(char[] ground, List<Integer> others, int from, int n, int a, int b) {
            if (n == 0) {
                return !seenFrom(ground, a)[b];
            }
            for (int i = from; i < others.size(); i++) {
                char was = ground[others.get(i)];
                ground[others.get(i)] = 'b';
                boolean parted = parts(ground, others, i + 1, n - 1, a, b);
                ground[others.get(i)] = was;
                if (parted) {
                    return true;
                }
            }
            return false;
        }

        // who passes

        int passes(int k, int c) {
            if (!isWalker(k) || !isCell(c)) {
                return -1;
            }
            List<Integer> p = path(state.ground, walkers.get(k)[0], walkers.get(k)[1]);
            if (p == null || state.ground[c] != 'b') {
                return -2;
            }
            for (int place : p.subList(1, p.size())) {
                if (state.ground[place] == 's' && sink > 0 && --state.bears[place] == 0) {
                    state.ground[place] = 'b';
                    state.laid[place] = -9;
                }
            }
            state.ground[c] = 's';
            state.bears[c] = sink;
            state.laid[c] = k;
            state.passed[k]++;
            return p.size() - 1;
        }

        int days(int n) {
            if (n < 1 || n > 9) {
                return -1;
            }
            int not = 0;
            for (int day = 1; day <= n; day++) {
                for (int k = 0; k < walkers.size(); k++) {
                    not += likes(k) == -9 || passes(k, likes(k)) < 0 ? 1 : 0;
                }
            }
            return not;
        }

        // kinds

        int rate(int kind, int k) {
            if (kind < 0 || kind > 5 || !isWalker(k)) {
                return -1000000;
            }
            int goes = Math.max(0, steps(walkers.get(k)[0], walkers.get(k)[1]));
            switch (kind) {
                case 0: trace += 1; return goes;
                case 1: trace += 11; return goes + state.passed[k];
                case 2: trace += 101; return goes - laidBy(k);
                case 3: trace += 1011; return 2 * (goes + state.passed[k]);
                case 4: trace += 10101; return goes - laidBy(k) + k;
                default: trace += 100001; return goes + stones(walkers.get(k)[0], walkers.get(k)[1]);
            }
        }
    }
}
