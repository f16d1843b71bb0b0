import java.util.ArrayDeque;
import java.util.ArrayList;
import java.util.Arrays;
import java.util.Deque;
import java.util.HashSet;
import java.util.List;
import java.util.Set;

/**
 * A second telling of the document, written another way than the program: who CROSSES is always found
 * by the PLACES, texts are read by descent, what two DANCES share is found row by row. Slow and plain.
 */
final class Model {
    static final int BAD = -1, STATE = -2, FULL = -3, NONE = -4, CAUGHT = -5, SPENT = -6;

    /** A weaving: on[p] the DANCER on PLACE p; top[i][j]: i lies OVER j, told only of those that CROSS. */
    static final class State {
        int n;
        int[] on;
        boolean[] in;
        boolean[] held;
        boolean[][] top;

        State(int n) {
            this.n = n;
            on = new int[n];
            in = new boolean[n];
            held = new boolean[n];
            top = new boolean[n][n];
            for (int i = 0; i < n; i++) {
                on[i] = i;
                in[i] = true;
                held[i] = true;
            }
        }

        State copy() {
            State s = new State(n);
            s.on = on.clone();
            s.in = in.clone();
            s.held = held.clone();
            for (int i = 0; i < n; i++) {
                s.top[i] = top[i].clone();
            }
            return s;
        }

        int where(int dancer) {
            for (int p = 0; p < n; p++) {
                if (on[p] == dancer % n) {
                    return p;
                }
            }
            throw new IllegalStateException("no DANCER " + dancer);
        }

        boolean haveDancerInCommon(int x, int y) {
            return x == y || (x + 1) % n == y || (y + 1) % n == x;
        }

        boolean cross(int x, int y) {
            if (!held[x] || !held[y] || haveDancerInCommon(x, y)) {
                return false;
            }
            int less = Math.min(where(x), where(x + 1));
            int greater = Math.max(where(x), where(x + 1));
            int between = 0;
            for (int p = less + 1; p < greater; p++) {
                if (on[p] == y || on[p] == (y + 1) % n) {
                    between++;
                }
            }
            return between == 1;
        }

        int pass(int p, boolean above) {
            int q = (p + 1) % n;
            int a = on[p];
            int b = on[q];
            List<int[]> pairs = new ArrayList<>();
            for (int x = 0; x < n; x++) {
                for (int y = 0; y < n; y++) {
                    boolean ofA = x == a || (x + 1) % n == a;
                    boolean ofB = y == b || (y + 1) % n == b;
                    if (ofA && ofB && held[x] && held[y] && !haveDancerInCommon(x, y)) {
                        pairs.add(new int[] {x, y});
                    }
                }
            }
            for (int[] pair : pairs) {
                boolean upper = top[pair[0]][pair[1]];
                if (cross(pair[0], pair[1]) && upper != above) {
                    return CAUGHT;
                }
            }
            List<Boolean> crossed = new ArrayList<>();
            for (int[] pair : pairs) {
                crossed.add(cross(pair[0], pair[1]));
            }
            on[p] = b;
            on[q] = a;
            for (int i = 0; i < pairs.size(); i++) {
                int x = pairs.get(i)[0];
                int y = pairs.get(i)[1];
                top[x][y] = !crossed.get(i) && above;
                top[y][x] = !crossed.get(i) && !above;
            }
            return 1;
        }

        int act(int sort, int number) {
            if (sort < 0 || sort > 5 || number < 0 || number > 7 || sort != 3 && number >= n) {
                return BAD;
            }
            if (sort < 2) {
                return pass(number, sort == 1);
            }
            if (sort == 2) {
                in[on[number]] = !in[on[number]];
            } else if (sort == 3) {
                goOn(number);
            } else if (sort == 4) {
                if (!held[number]) {
                    return STATE;
                }
                held[number] = false;
                for (int i = 0; i < n; i++) {
                    top[i][number] = false;
                    top[number][i] = false;
                }
            } else {
                int apart = Math.floorMod(where(number) - where(number + 1), n);
                if (held[number] || apart != 1 && apart != n - 1) {
                    return STATE;
                }
                held[number] = true;
            }
            return 1;
        }

        void goOn(int d) {
            int[] was = on.clone();
            for (int p = 0; p < n; p++) {
                on[Math.floorMod(p + d, n)] = was[p];
            }
        }

        int actBack(int sort, int number) {
            switch (sort) {
                case 0: return act(1, number);
                case 1: return act(0, number);
                case 2: return act(2, number);
                case 3: goOn(-number); return 1;
                default: return STATE;
            }
        }

        String weavingWithoutFacing() {
            return Arrays.toString(held) + Arrays.deepToString(top);
        }

        String exact() {
            return Arrays.toString(on) + Arrays.toString(in) + weavingWithoutFacing();
        }

        /** The same text for all that are ALIKE. */
        String likeness() {
            StringBuilder row = new StringBuilder();
            for (int i = 0; i < n; i++) {
                row.append(Math.floorMod(where(i) - where(0), n));
            }
            return row + weavingWithoutFacing();
        }

        int[] layers() {
            int[] layer = new int[n];
            Arrays.fill(layer, NONE);
            boolean[] left = held.clone();
            for (int round = 0; round < n; round++) {
                boolean[] next = left.clone();
                for (int i = 0; i < n; i++) {
                    boolean free = left[i];
                    for (int j = 0; j < n; j++) {
                        free &= !(left[j] && top[j][i]);
                    }
                    if (free) {
                        next[i] = false;
                        layer[i] = round;
                    }
                }
                left = next;
            }
            return layer;
        }

        int above(int i) {
            int count = 0;
            for (int j = 0; j < n; j++) {
                count += top[i][j] ? 1 : 0;
            }
            return count;
        }

        int below(int i) {
            int count = 0;
            for (int j = 0; j < n; j++) {
                count += top[j][i] ? 1 : 0;
            }
            return count;
        }

        int turns() {
            int sum = 0;
            for (int x = 0; x < n; x++) {
                for (int y = 0; y < n; y++) {
                    if (!cross(x, y) || !top[x][y]) {
                        continue;
                    }
                    boolean met = false;
                    for (int p = where(x + 1); p != where(x); p = (p + 1) % n) {
                        met |= on[p] == (y + 1) % n;
                    }
                    sum += met ? 1 : -1;
                }
            }
            return sum;
        }

        int star() {
            for (int k = 2; k <= n - 2; k++) {
                boolean all = true;
                for (int i = 0; i < n; i++) {
                    all &= (where(i) + k) % n == where(i + 1);
                }
                if (all) {
                    return k;
                }
            }
            return NONE;
        }
    }

    State now = new State(5);
    final Deque<State> past = new ArrayDeque<>();
    final List<State> poses = new ArrayList<>();
    final List<List<int[]>> figures = new ArrayList<>();
    final List<List<Integer>> villages = new ArrayList<>();
    final int[][] sheets = new int[4][];
    final int[] lanes = new int[4];
    String tape = "";
    int fault;
    int why;

    // ---- the ring

    int ring(int n) {
        if (n < 4 || n > 8) {
            return BAD;
        }
        now = new State(n);
        past.clear();
        poses.clear();
        return 1;
    }

    private int noted(State before, int answer) {
        if (answer == 1) {
            past.addLast(before);
            if (past.size() > 12) {
                past.removeFirst();
            }
        }
        return answer;
    }

    int act(int sort, int number) {
        State before = now.copy();
        return noted(before, now.act(sort, number));
    }

    int undo() {
        if (past.isEmpty()) {
            return NONE;
        }
        now = past.removeLast();
        return past.size();
    }

    int place(int p, int what) {
        if (p < 0 || p >= now.n || what < 0 || what > 1) {
            return BAD;
        }
        return what == 0 ? now.on[p] : now.in[now.on[p]] ? 1 : 0;
    }

    int blade(int i, int what) {
        if (i < 0 || i >= now.n || what < 0 || what > 4) {
            return BAD;
        }
        int crossed = 0;
        for (int j = 0; j < now.n; j++) {
            crossed += now.cross(i, j) ? 1 << j : 0;
        }
        int[] answers = {now.held[i] ? 1 : 0, now.above(i), now.below(i), crossed, now.layers()[i]};
        return answers[what];
    }

    int over(int i, int j) {
        if (i < 0 || i >= now.n || j < 0 || j >= now.n || i == j) {
            return BAD;
        }
        return !now.cross(i, j) ? NONE : now.top[i][j] ? 1 : 0;
    }

    int about(int what) {
        int crossings = 0;
        int bound = 0;
        int layers = 0;
        int inward = 0;
        int held = 0;
        boolean lock = true;
        int[] layer = now.layers();
        for (int i = 0; i < now.n; i++) {
            for (int j = 0; j < i; j++) {
                crossings += now.cross(i, j) ? 1 : 0;
            }
            bound += now.held[i] && layer[i] == NONE ? 1 : 0;
            layers = Math.max(layers, layer[i] + 1);
            inward += now.in[i] ? 1 : 0;
            held += now.held[i] ? 1 : 0;
            lock &= now.held[i] && now.above(i) > 0 && now.below(i) > 0;
        }
        int[] answers = {now.n, crossings, lock ? 1 : 0, layers, bound, now.star(), now.turns(), inward, held,
            past.size()};
        return what < 0 || what >= answers.length ? BAD : answers[what];
    }

    int can(int sort) {
        if (sort < 0 || sort > 1) {
            return BAD;
        }
        int sum = 0;
        for (int p = 0; p < now.n; p++) {
            sum += now.copy().act(sort, p) == 1 ? 1 << p : 0;
        }
        return sum;
    }

    // ---- figures

    int feed(long v) {
        if (tape.length() > 152) {
            return FULL;
        }
        StringBuilder more = new StringBuilder(tape);
        for (int shift = 56; shift >= 0; shift -= 8) {
            more.append((char) (v >>> shift & 255));
        }
        tape = more.toString();
        return tape.length();
    }

    int end(int n) {
        int had = tape.length();
        if (n < 0 || n > had) {
            return BAD;
        }
        tape = tape.substring(0, n);
        return had;
    }

    private static final class Fault extends Exception {
        private static final long serialVersionUID = 1;
        final int sort;
        final int place;

        Fault(int sort, int place) {
            this.sort = sort;
            this.place = place;
        }
    }

    private int at;
    private int from;
    private String token;

    /** Reads the next TOKEN: a sign, the figures of a NUMBER, or nothing at the end. */
    private void read() throws Fault {
        while (at < tape.length() && tape.charAt(at) == ' ') {
            at++;
        }
        from = at;
        int end = at;
        while (end < tape.length() && Character.digit(tape.charAt(end), 10) >= 0 && tape.charAt(end) < 128) {
            end++;
        }
        end = end == at ? Math.min(at + 1, tape.length()) : end;
        token = tape.substring(at, end);
        at = end;
        if (token.length() > 2 || !token.isEmpty() && !isNumber() && "uotrdkf().".indexOf(token.charAt(0)) < 0) {
            throw new Fault(1, from);
        }
    }

    private boolean isNumber() {
        return !token.isEmpty() && token.charAt(0) >= '0' && token.charAt(0) <= '9';
    }

    /** Items up to a ) or the end, which is the TOKEN then; null: more BEATS than can be. */
    private List<int[]> items(int open) throws Fault {
        List<int[]> row = new ArrayList<>();
        boolean tooMany = false;
        boolean first = true;
        while (true) {
            read();
            boolean ends = open > 0 ? token.equals(")") : token.isEmpty();
            if (ends && !first) {
                return tooMany || row.size() > 200 ? null : row;
            }
            List<int[]> item = item(open);
            first = false;
            if (item == null || row.size() > 200) {
                tooMany = true;
            } else {
                row.addAll(item);
            }
        }
    }

    private List<int[]> item(int open) throws Fault {
        if (token.equals(".")) {
            return List.of(new int[] {6, 0});
        }
        if (isNumber()) {
            int rounds = Integer.parseInt(token);
            if (rounds < 1 || rounds > 20) {
                throw new Fault(3, from);
            }
            read();
            if (!token.equals("(")) {
                throw new Fault(2, from);
            }
            if (open == 4) {
                throw new Fault(4, from);
            }
            List<int[]> once = items(open + 1);
            List<int[]> all = new ArrayList<>();
            for (int i = 0; i < rounds && once != null; i++) {
                all.addAll(once);
            }
            return once == null ? null : all;
        }
        int letter = token.isEmpty() ? -1 : "uotrdkf".indexOf(token.charAt(0));
        if (letter < 0) {
            throw new Fault(2, from);
        }
        read();
        if (!isNumber()) {
            throw new Fault(2, from);
        }
        int number = Integer.parseInt(token);
        if (letter == 6 ? number >= figures.size() : number > 7) {
            throw new Fault(3, from);
        }
        return letter == 6 ? figures.get(number) : List.of(new int[] {letter, number});
    }

    int figure() {
        if (figures.size() == 8) {
            return FULL;
        }
        try {
            at = 0;
            List<int[]> row = items(0);
            if (row == null) {
                throw new Fault(5, 0);
            }
            figures.add(row);
            fault = 0;
            tape = "";
            return figures.size() - 1;
        } catch (Fault f) {
            fault = f.sort;
            tape = "";
            return -10 - f.place;
        }
    }

    int fault() {
        return fault;
    }

    int told(int f, int what) {
        if (f < 0 || f >= figures.size()) {
            return BAD;
        }
        List<int[]> row = figures.get(f);
        int acts = 0;
        int most = NONE;
        for (int[] beat : row) {
            acts += beat[0] < 6 ? 1 : 0;
            most = beat[0] < 6 && beat[0] != 3 ? Math.max(most, beat[1]) : most;
        }
        if (what >= 0 && what < 3) {
            return what == 0 ? row.size() : what == 1 ? acts : most;
        }
        if (what >= 300) {
            return what - 300 < row.size() ? row.get(what - 300)[1] : BAD;
        }
        return what >= 10 && what - 10 < row.size() ? row.get(what - 10)[0] : BAD;
    }

    private int beat(int[] beat, boolean backward) {
        if (beat[0] == 6) {
            return 1;
        }
        State before = now.copy();
        return noted(before, backward ? now.actBack(beat[0], beat[1]) : now.act(beat[0], beat[1]));
    }

    private int done(int f, boolean backward) {
        List<int[]> row = figures.get(f);
        for (int i = 0; i < row.size(); i++) {
            why = beat(row.get(backward ? row.size() - 1 - i : i), backward);
            if (why != 1) {
                return -100 - i;
            }
        }
        why = 0;
        return row.size();
    }

    int dance(int f) {
        return f < 0 || f >= figures.size() ? BAD : done(f, false);
    }

    int why() {
        return why;
    }

    int back(int f) {
        return f < 0 || f >= figures.size() ? BAD : done(f, true);
    }

    private static boolean tried(State s, List<int[]> row, boolean backward) {
        for (int i = 0; i < row.size(); i++) {
            int[] beat = row.get(backward ? row.size() - 1 - i : i);
            if (beat[0] < 6 && (backward ? s.actBack(beat[0], beat[1]) : s.act(beat[0], beat[1])) != 1) {
                return false;
            }
        }
        return true;
    }

    int order(int f) {
        if (f < 0 || f >= figures.size()) {
            return BAD;
        }
        State s = now.copy();
        for (int times = 1; times <= 60; times++) {
            if (!tried(s, figures.get(f), false)) {
                return STATE;
            }
            if (s.exact().equals(now.exact())) {
                return times;
            }
        }
        return NONE;
    }

    int mirrors(int f) {
        if (f < 0 || f >= figures.size()) {
            return BAD;
        }
        State s = now.copy();
        if (!tried(s, figures.get(f), false)) {
            return 0;
        }
        if (!tried(s, figures.get(f), true)) {
            return 2;
        }
        if (!s.exact().equals(now.exact())) {
            throw new IllegalStateException("a FIGURE DONE and BACK gives something else");
        }
        return 1;
    }

    // ---- poses, ways

    int keep() {
        if (poses.size() == 6) {
            return FULL;
        }
        poses.add(now.copy());
        return poses.size() - 1;
    }

    private boolean noPose(int k) {
        return k < 0 || k >= poses.size();
    }

    int stand(int k) {
        if (noPose(k)) {
            return BAD;
        }
        now = poses.get(k).copy();
        past.clear();
        return 1;
    }

    int alike(int k) {
        if (noPose(k)) {
            return BAD;
        }
        boolean same = poses.get(k).exact().equals(now.exact());
        return same ? 2 : poses.get(k).likeness().equals(now.likeness()) ? 1 : 0;
    }

    private int metCount;
    private List<Integer> ways;

    /** Breadth first, each with its own row of ACTS: how long THE WAY is, NONE, SPENT. */
    private int search(State goal) {
        List<State> met = new ArrayList<>();
        List<List<Integer>> rows = new ArrayList<>();
        Set<String> likenesses = new HashSet<>();
        met.add(now.copy());
        rows.add(new ArrayList<>());
        likenesses.add(now.likeness());
        ways = null;
        String wanted = goal.likeness();
        if (likenesses.contains(wanted)) {
            ways = rows.get(0);
        }
        for (int i = 0; i < met.size() && ways == null && met.size() < 1500; i++) {
            for (int a = 0; a < 2 * now.n && ways == null && met.size() < 1500; a++) {
                State next = met.get(i).copy();
                if (next.act(a % 2, a / 2) != 1 || !likenesses.add(next.likeness())) {
                    continue;
                }
                List<Integer> row = new ArrayList<>(rows.get(i));
                row.add(a);
                met.add(next);
                rows.add(row);
                if (next.likeness().equals(wanted)) {
                    ways = row;
                }
            }
        }
        metCount = met.size();
        return ways != null ? ways.size() : met.size() >= 1500 ? SPENT : NONE;
    }

    int way(int k) {
        return noPose(k) ? BAD : search(poses.get(k));
    }

    int wayAt(int k, int i) {
        if (noPose(k) || i < 0) {
            return BAD;
        }
        int found = search(poses.get(k));
        return found == SPENT ? SPENT : i < found ? ways.get(i) : NONE;
    }

    int met(int k) {
        if (noPose(k)) {
            return BAD;
        }
        search(poses.get(k));
        return metCount;
    }

    // ---- villages

    int village() {
        if (villages.size() == 4) {
            return FULL;
        }
        villages.add(new ArrayList<>());
        return villages.size() - 1;
    }

    private boolean noVillage(int v) {
        return v < 0 || v >= villages.size();
    }

    int add(int v, int f) {
        if (noVillage(v) || f < 0 || f >= figures.size()) {
            return BAD;
        }
        if (villages.get(v).size() == 16) {
            return FULL;
        }
        villages.get(v).add(f);
        return villages.get(v).size();
    }

    int danceOf(int v, int what) {
        if (noVillage(v)) {
            return BAD;
        }
        List<Integer> row = villages.get(v);
        if (what == 1) {
            int sum = 0;
            for (int f : row) {
                sum += figures.get(f).size();
            }
            return sum;
        }
        return what == 0 ? row.size() : what >= 10 && what - 10 < row.size() ? row.get(what - 10) : BAD;
    }

    /** The best row of two: the longest, then the least; told as a text of FIGURES. */
    private static String best(List<Integer> a, List<Integer> b) {
        String[][] best = new String[a.size() + 1][b.size() + 1];
        for (int i = a.size(); i >= 0; i--) {
            for (int j = b.size(); j >= 0; j--) {
                String row = "";
                if (i < a.size() && j < b.size()) {
                    row = better(best[i + 1][j], best[i][j + 1]);
                    row = a.get(i).equals(b.get(j)) ? better(row, a.get(i) + best[i + 1][j + 1]) : row;
                }
                best[i][j] = row;
            }
        }
        return best[0][0];
    }

    private static String better(String x, String y) {
        return x.length() != y.length() ? x.length() > y.length() ? x : y : x.compareTo(y) <= 0 ? x : y;
    }

    int shared(int v, int w, int i) {
        if (noVillage(v) || noVillage(w) || i < 0 && i != NONE) {
            return BAD;
        }
        String row = best(villages.get(v), villages.get(w));
        return i == NONE ? row.length() : i < row.length() ? row.charAt(i) - '0' : NONE;
    }

    int perform(int v) {
        if (noVillage(v)) {
            return BAD;
        }
        for (int i = 0; i < villages.get(v).size(); i++) {
            if (done(villages.get(v).get(i), false) < 0) {
                return -100 - i;
            }
        }
        return villages.get(v).size();
    }

    // ---- sheets

    int sheet(int k, int lane, int n) {
        if (k < 0 || k > 3 || lane < 0 || lane > 2 || n > 60) {
            return BAD;
        }
        if (n < 0) {
            return -14;
        }
        sheets[k] = new int[n];
        lanes[k] = lane;
        return 1;
    }

    int lay(int k, int i, int v) {
        if (k < 0 || k > 3) {
            return BAD;
        }
        if (sheets[k] == null) {
            return -11;
        }
        if (i < 0 || i >= sheets[k].length) {
            return -12;
        }
        int unused = new int[] {24, 16, 0}[lanes[k]];
        sheets[k][i] = v << unused >> unused;
        return 1;
    }

    int scan(int k, int lane, int f, int n) {
        if (k < 0 || k > 3 || lane < 0 || lane > 2 || n < 0 || n > 30) {
            return BAD;
        }
        if (sheets[k] == null) {
            return -11;
        }
        if (lanes[k] != lane) {
            return -13;
        }
        for (int i = 0; i < n; i++) {
            long cell = f + 2L * i;
            if (cell < 0 || cell + 1 >= sheets[k].length) {
                return -12;
            }
            int answer = act(sheets[k][(int) cell], sheets[k][(int) cell + 1]);
            if (answer != 1) {
                return -20 + answer;
            }
        }
        return n;
    }

    int count(int what) {
        int[] answers = {figures.size(), poses.size(), villages.size(), tape.length(),
            sheets[0] == null ? NONE : sheets[0].length};
        return what < 0 || what >= answers.length ? BAD : answers[what];
    }
}
